/-! FOUNDED: isFounded -/
def tf_t (xs : Nat → Int32) (N : Nat) (σ : hs_St) (k : Nat) : Nat → hs_St
  | 0 => σ
  | u + 1 => hs_sg (tf_t xs N σ k u) 6 (tl_v xs N (k + 3 * u) (nI 4)).toNatClampNeg (tl_v xs N (k + 3 * u + 1) 3).toNatClampNeg (tl_v xs N (k + 3 * u + 2) 81 - 40)
theorem tf_t0 (xs : Nat → Int32) (N : Nat) (σ : hs_St) (k : Nat) : tf_t xs N σ k 0 = σ := rfl
theorem tf_tS (xs : Nat → Int32) (N : Nat) (σ : hs_St) (k u : Nat) : tf_t xs N σ k (u + 1) = hs_sg (tf_t xs N σ k u) 6 (tl_v xs N (k + 3 * u) (nI 4)).toNatClampNeg (tl_v xs N (k + 3 * u + 1) 3).toNatClampNeg (tl_v xs N (k + 3 * u + 2) 81 - 40) := rfl
def tf_all (xs : Nat → Int32) (N : Nat) (σ : hs_St) (k : Nat) : hs_St := sp_newF (tf_d xs N (tf_t xs N (tf_r xs N (tf_p xs N σ k 4) (k + 88) 3) (k + 94) 5) (k + 109) 4) 4 (tl_v xs N (k + 121) 4).toNatClampNeg
set_option maxHeartbeats 4000000 in
set_option maxRecDepth 100000 in
/-- Told: isFounded: the loop at 12 -/
theorem lkL_isFounded (l : Launch) (D : va_G) (d : hs_Dm) (a0 w b : Nat) (cB : ClassId) (Lh L2 : hs_Lo) (Ah A : Nat → Prop) (N : Nat) (xs : Nat → Int32) (L : hs_Lo) (n : Nat → Nat) (c σ : hs_St)  (hN31 : N < 2 ^ 31) {p : Program} {e : Env} {s : State} {m : MethodId} {args : Array Value} {below : List Frame} {meth : Method} {c0 : Code} (k : Nat) (hk20 : k < 2 ^ 17) (hx : p.tables.exec = Jvm.exec) (hb : c0.code = cL_isFounded) (hr : meth.sig.returnType = (some .boolean)) (hts : ∀ w ∈ wsL_isFounded, w.before args s = true) (hown : s.vm.findClass RL = some m.cls) (hlocks : meth.locks = false) (hml : c0.maxLocals = 2) (hKK : tl_K D d w b cB Lh L2 A N xs s s.heap) (hH : tl_H w b Ah A s.heap.size) : ∀ (kk u : Nat), u + kk = 5 → ∀ (Lv : hs_Lo) (nv : Nat → Nat) (cv σv : hs_St) (hG : tg 4 0 3 nv cv σv (k + 94 + 3 * u) 0) (hσ : σv = tf_t xs N (tf_r xs N (tf_p xs N σ k 4) (k + 88) 3) (k + 94) u) (H : Heap) (locs : List Loc), tl_B D d a0 w b cB Lh Ah A Lv nv cv σv H → va_S A s.heap H locs → ∀ ls : Array Slot, lv_has ls 2 [(1, .int (nI u)), (0, .ref a0)] → W p l e ({ frames := 8, cells := 72, slots := 492, locals := 210 } : Room) s m args below meth c0 H locs 46 274 (MQ below (va_Qi (fun r X => r = 1 ∧ X.2.2.2 = tf_all xs N σ k ∧ tg 4 5 3 X.2.1 X.2.2.1 X.2.2.2 (k + 122) 16 ∧ ∀ f, f < 4 → X.2.2.2 9 f 2 = nI 6 ∧ X.2.2.2 9 f 4 = 0) (fun X t => tl_Bx D d a0 w b cB Lh Ah A X t.heap) A) args s 72 492 A) (F0 m 12 ls []) := by
  intro kk
  induction kk with
  | zero =>
    intro u hu Lv nv cv σv hG hσ H locs hB hS ls hl
    have huN : u = 5 := by omega
    refine lv_iload_n hx hb dL_isFounded_12 rfl (lv_at hl 0 rfl) ?_
    refine lv_iconst (v := 5) hx hb dL_isFounded_13 (by decide) ?_
    refine lv_icmp_ge (tgt := 32) hx hb dL_isFounded_14 (by decide) (fun c_14 => ?_) (fun c_14 => ?_)
    · refine lv_aload_n hx hb dL_isFounded_32 rfl (lv_at hl 1 rfl) ?_
      refine lv_iconst (v := 4) hx hb dL_isFounded_33 (by decide) ?_
      refine tl_calli (As := [.int 4]) ⟨hx, hb, hml, hown, hts⟩ (kX5_made l D d a0 w b cB Lh L2 Ah A N xs Lv nv cv σv H.size (hH.up hS.1) hN31 (k + 109) (by omega) (by have h_ := hG; rw [huN] at h_; exact h_)) (cwV 1 hts gL_isFounded_X5_made rfl rfl rfl (by decide +kernel) ⟨Nat.le_of_ble_eq_true rfl, Nat.le_of_ble_eq_true rfl⟩) hKK hH hB hS rfl hl.1 (Nat.le_of_ble_eq_true rfl) dL_isFounded_34 ⟨by show _ ≤ 72; omega, by show _ ≤ 492; omega⟩ rfl (fun r_ X_ H locs hp hB hz hS => ?_)
      obtain ⟨Lw, nw, cw, σw⟩ := X_
      obtain ⟨e1_, e2_, e3_, e4_⟩ := hp
      have e2_ : σw = _ := e2_
      subst e1_
      have hB : tl_B D d a0 w b cB Lh Ah A Lw nw cw σw H := hB
      refine lv_if_eq (tgt := 56) hx hb dL_isFounded_37 (by decide) (fun c_37 => ?_) (fun c_37 => ?_)
      · exact absurd c_37 (by decide +kernel)
      · refine lv_aload_n hx hb dL_isFounded_40 rfl (lv_at hl 1 rfl) ?_
        refine lv_aload_n hx hb dL_isFounded_41 rfl (lv_at hl 1 rfl) ?_
        refine lv_iconst (v := 4) hx hb dL_isFounded_42 (by decide) ?_
        refine tl_draw (k := (k + 109 + 12)) ⟨hx, hb, hml, hown, hts⟩ (cwV 1 hts gL_isFounded_X5_draw rfl rfl rfl (by decide +kernel) ⟨Nat.le_of_ble_eq_true rfl, Nat.le_of_ble_eq_true rfl⟩) e3_.2.2.2.1 (by omega) hN31 (by decide) hKK hH hB hS rfl hl.1 (Nat.le_of_ble_eq_true rfl) dL_isFounded_43 ⟨by show _ ≤ 72; omega, by show _ ≤ 492; omega⟩ rfl (fun H locs hB hz hqq hS => ?_)
        have hB : tl_B D d a0 w b cB Lh Ah A Lw nw (hs_sg cw 0 0 2 (nI ((k + 109 + 12) + 1))) σw H := hB
        obtain ⟨q, hq, eq⟩ := tl_v_in xs N (k + 109 + 12) (m := 4) (by omega) (by omega)
        rw [show tl_v xs N (k + 109 + 12) 4 = nI q from eq]
        refine tl_calli (As := [.int (nI q)]) ⟨hx, hb, hml, hown, hts⟩ (kX5_figure l D d a0 w b cB Lh L2 Ah A N xs Lw nw (hs_sg cw 0 0 2 (nI ((k + 109 + 12) + 1))) σw H.size (hH.up hS.1) hN31 4 4 3 (k + 109 + 12 + 1) 16 (tg_draw e3_ rfl (fun a b_ e_ h_ => by simp only [hs_sg]; repeat rw [if_neg (by omega)]) rfl) (by omega) (by omega) (by omega) (by omega) q hq) (cwV 1 hts gL_isFounded_X5_figure rfl rfl rfl (by decide +kernel) ⟨Nat.le_of_ble_eq_true rfl, Nat.le_of_ble_eq_true rfl⟩) hKK hH hB hS rfl hl.1 (Nat.le_of_ble_eq_true rfl) dL_isFounded_46 ⟨by show _ ≤ 72; omega, by show _ ≤ 492; omega⟩ rfl (fun r_ X_ H locs hp hB hz hS => ?_)
        obtain ⟨Ly, ny, cy, σy⟩ := X_
        obtain ⟨f1_, f2_, f3_⟩ := hp
        have f2_ : σy = _ := f2_
        subst f1_
        have hB : tl_B D d a0 w b cB Lh Ah A Ly ny cy σy H := hB
        refine lv_if_eq (tgt := 56) hx hb dL_isFounded_49 (by decide) (fun c_49 => ?_) (fun c_49 => ?_)
        · exact absurd c_49 (by decide +kernel)
        · refine lv_iconst (v := 1) hx hb dL_isFounded_52 (by decide) ?_
          refine lv_goto (tgt := 57) hx hb dL_isFounded_53 (by decide) ?_
          refine W.widen (k := 72) (n := 492) (Nat.le_of_ble_eq_true rfl) (Nat.le_of_ble_eq_true rfl) ?_
          exact W.zret (v := 1) (ty := .boolean) hx hb hr rfl (fun U9 ht hW9 => ⟨⟨1, (Ly, ny, cy, σy), rfl, ⟨rfl, by rw [f2_, e2_, hσ, huN]; show _ = sp_newF _ 4 (tl_v xs N (k + 109 + 12) 4).toNatClampNeg; rw [show tl_v xs N (k + 109 + 12) 4 = nI q from eq, nI_clamp (by omega)], f3_, fun f hf => ⟨by show σy 9 f 2 = _; rw [f2_, md_F (by omega) (by omega)]; exact (e4_ f hf).1, by show σy 9 f 4 = _; rw [f2_, md_F (by omega) (by omega)]; exact (e4_ f hf).2⟩⟩, by show tl_Bx D d a0 w b cB Lh Ah A _ U9.heap; rw [ht]; exact hB⟩, hS.F ht⟩) hS.2.2 dL_isFounded_57
    · exact absurd (by rw [huN]; exact nI_le (a := 5) (b := 5) (Nat.le_refl _) (by decide)) c_14
  | succ kk ih =>
    intro u hu Lv nv cv σv hG hσ H locs hB hS ls hl
    have huN : u < 5 := by omega
    refine lv_iload_n hx hb dL_isFounded_12 rfl (lv_at hl 0 rfl) ?_
    refine lv_iconst (v := 5) hx hb dL_isFounded_13 (by decide) ?_
    refine lv_icmp_ge (tgt := 32) hx hb dL_isFounded_14 (by decide) (fun c_14 => ?_) (fun c_14 => ?_)
    · exact absurd c_14 (nI_ge (b := 5) huN (by decide))
    · refine lv_aload_n hx hb dL_isFounded_17 rfl (lv_at hl 1 rfl) ?_
      refine tl_calli (As := []) ⟨hx, hb, hml, hown, hts⟩ (kX5_trend l D d a0 w b cB Lh L2 Ah A N xs Lv nv cv σv H.size (hH.up hS.1) hN31 4 0 3 (k + 94 + 3 * u) 0 hG (by omega) (by omega) (by omega) (by omega) (by decide)) (cwV 0 hts gL_isFounded_X5_trend rfl rfl rfl (by decide +kernel) ⟨Nat.le_of_ble_eq_true rfl, Nat.le_of_ble_eq_true rfl⟩) hKK hH hB hS rfl hl.1 (Nat.le_of_ble_eq_true rfl) dL_isFounded_18 ⟨by show _ ≤ 72; omega, by show _ ≤ 492; omega⟩ rfl (fun r_ X_ H locs hp hB hz hS => ?_)
      obtain ⟨Lw, nw, cw, σw⟩ := X_
      obtain ⟨e1_, e2_, e3_⟩ := hp
      have e2_ : σw = _ := e2_
      subst e1_
      have hB : tl_B D d a0 w b cB Lh Ah A Lw nw cw σw H := hB
      refine lv_if_ne (tgt := 26) hx hb dL_isFounded_21 (by decide) (fun c_21 => ?_) (fun c_21 => ?_)
      · refine lv_iinc (v := nI (u + 1)) (lv' := [(1, .int (nI (u + 1))), (0, .ref a0)]) hx hb dL_isFounded_26 hl (k := 0) rfl (nI_succ _).symm (by decide) rfl (fun ls hl => ?_)
        refine lv_goto (tgt := 12) hx hb dL_isFounded_29 (by decide) ?_
        exact ih (u + 1) (by omega) Lw nw cw σw (by have h_ := e3_; rw [show k + 94 + 3 * u + 3 = k + 94 + 3 * (u + 1) by omega] at h_; exact h_) (by rw [e2_, hσ, tf_tS]) H locs hB hS ls (lv_sub hl [0, 1] rfl)
      · exact absurd c_21 (by decide +kernel)
set_option maxHeartbeats 4000000 in
set_option maxRecDepth 100000 in
/-- Told: isFounded -/
theorem kL_isFounded (l : Launch) (D : va_G) (d : hs_Dm) (a0 w b : Nat) (cB : ClassId) (Lh L2 : hs_Lo) (Ah A : Nat → Prop) (N : Nat) (xs : Nat → Int32) (L : hs_Lo) (n : Nat → Nat) (c σ : hs_St) (sz : Nat) (hH : tl_H w b Ah A sz) (hN31 : N < 2 ^ 31) (k : Nat) (hk20 : k < 2 ^ 17) (G : tg 0 0 0 n c σ k 0) : tl_Mi l yL_isFounded wsL_isFounded ({ frames := 8, cells := 72, slots := 492, locals := 210 }) D d a0 w b cB Lh L2 Ah A N xs L n c σ sz [.ref a0] (fun r X => r = 1 ∧ X.2.2.2 = tf_all xs N σ k ∧ tg 4 5 3 X.2.1 X.2.2.1 X.2.2.2 (k + 122) 16 ∧ ∀ f, f < 4 → X.2.2.2 9 f 2 = nI 6 ∧ X.2.2.2 9 f 4 = 0) 72 492 := by
  refine Met.ofW (cc := cL_isFounded) (maxL := 2) (ret := (some .boolean)) (by decide) rfl ?_
  intro p e s m args below meth c0 s₁ B hml hv
  obtain ⟨rfl, hsz, hB, hKK⟩ := hv
  have hx := B.exec
  have hb := B.bytes
  have hr := B.returns
  have hts := atoms_spec (ws := wsL_isFounded) B.pre
  have hown : s.vm.findClass RL = some m.cls := findClass_of_methodNamed B.named
  have hlocks := B.notSynchronized
  have hS : va_S A s.heap s.heap [] := va_S.rf
  have hH : tl_H w b Ah A s.heap.size := by rw [hsz]; exact hH
  have hl := lv_entry ([.ref a0]) (n := 2) (Nat.le_of_ble_eq_true rfl)
  rw [lg_entry_eq]
  generalize (lg_sl ([.ref a0]) ++ List.replicate (2 - (lg_sl ([.ref a0])).length) Slot.unset).toArray = ls at hl ⊢
  have hl : lv_has ls 2 [(0, .ref a0)] := hl
  refine lv_aload_n hx hb dL_isFounded_0 rfl (lv_at hl 0 rfl) ?_
  refine lv_iconst (v := 4) hx hb dL_isFounded_1 (by decide) ?_
  refine tl_calli (As := [.int 4]) ⟨hx, hb, hml, hown, hts⟩ (kX5_found l D d a0 w b cB Lh L2 Ah A N xs L n c σ s.heap.size hH hN31 k (by omega) G) (cwV 1 hts gL_isFounded_X5_found rfl rfl rfl (by decide +kernel) ⟨Nat.le_of_ble_eq_true rfl, Nat.le_of_ble_eq_true rfl⟩) hKK hH hB hS rfl hl.1 (Nat.le_of_ble_eq_true rfl) dL_isFounded_2 ⟨by show _ ≤ 72; omega, by show _ ≤ 492; omega⟩ rfl (fun r_ X_ H locs hp hB hz hS => ?_)
  obtain ⟨Lw, nw, cw, σw⟩ := X_
  obtain ⟨e1_, e2_, e3_⟩ := hp
  have e2_ : σw = _ := e2_
  subst e1_
  have hB : tl_B D d a0 w b cB Lh Ah A Lw nw cw σw H := hB
  refine lv_if_ne (tgt := 10) hx hb dL_isFounded_5 (by decide) (fun c_5 => ?_) (fun c_5 => ?_)
  · refine lv_iconst (v := 0) hx hb dL_isFounded_10 (by decide) ?_
    refine lv_istore_n (lv' := [(1, .int 0), (0, .ref a0)]) hx hb dL_isFounded_11 rfl hl (by decide) rfl (fun ls hl => ?_)
    refine W.widen (k := 46) (n := 274) (Nat.le_of_ble_eq_true rfl) (Nat.le_of_ble_eq_true rfl) ?_
    exact lkL_isFounded l D d a0 w b cB Lh L2 Ah A N xs L n c σ hN31 k hk20 hx hb hr hts hown hlocks hml hKK hH 5 0 (by omega) Lw nw cw σw e3_ (by rw [tf_t0]; exact e2_) _ _ hB hS ls (lv_sub hl [0, 1] rfl)
  · exact absurd c_5 (by decide +kernel)
