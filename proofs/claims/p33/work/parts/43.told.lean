/-! TOLD'S METHODS: pass -/
theorem tg_hd {P F R : Nat} {n : Nat → Nat} {c σ : hs_St} {k dy : Nat} (h : tg P F R n c σ k dy) : pd_hd P F σ := fun f hf => by
  obtain ⟨-, -, ⟨q, hq, -, e0, e1⟩, -⟩ := h.2.2.2.2.2.2.2 f hf
  have := h.1.1
  rw [e0, e1, nI_clamp (by omega)]
  exact ⟨hq, hq⟩
set_option maxHeartbeats 4000000 in
set_option maxRecDepth 100000 in
/-- Told: pass: the loop at 6 -/
theorem lkX5_pass (l : Launch) (D : va_G) (d : hs_Dm) (a0 w b : Nat) (cB : ClassId) (Lh L2 : hs_Lo) (Ah A : Nat → Prop) (N : Nat) (xs : Nat → Int32) (L : hs_Lo) (n : Nat → Nat) (c σ : hs_St)  (hN31 : N < 2 ^ 31) {p : Program} {e : Env} {s : State} {m : MethodId} {args : Array Value} {below : List Frame} {meth : Method} {c0 : Code} (P F R k dy : Nat) (G : tg P F R n c σ k dy) (hP9 : P ≤ 7) (hF7 : F ≤ 7) (hR4 : R ≤ 4) (hk20 : k < 2 ^ 20) (hP1 : 1 ≤ P) (M : Nat) (hM1 : 1 ≤ M) (hM4 : M ≤ 4) (hdM : dy + M < 30) (x z : Int32) (hx0 : ¬ x < 0) (hx9 : x ≤ 2000) (hz0 : ¬ z < 0) (hz9 : z ≤ 40) (hx : p.tables.exec = Jvm.exec) (hb : c0.code = cX5_pass) (hr : meth.sig.returnType = (some .boolean)) (hts : ∀ w ∈ wsX5_pass, w.before args s = true) (hown : s.vm.findClass RX5 = some m.cls) (hlocks : meth.locks = false) (hml : c0.maxLocals = 6) (hKK : tl_K D d w b cB Lh L2 A N xs s s.heap) (hH : tl_H w b Ah A s.heap.size) : ∀ (kk u : Nat), u + kk = M → ∀ (cv : hs_St) (many : Int32) (hT : tm P F R n cv (sp_pass σ P F x z u).2 k (dy + u)) (hmy : many = (sp_pass σ P F x z u).1) (H : Heap) (locs : List Loc), tl_B D d a0 w b cB Lh Ah A L n cv σ H → va_S A s.heap H locs → ∀ ls : Array Slot, lv_has ls 6 [(5, .int (nI u)), (4, .int many), (3, .int z), (2, .int x), (1, .int (nI M)), (0, .ref a0)] → W p l e ({ frames := 6, cells := 4, slots := 32, locals := 150 } : Room) s m args below meth c0 H locs u (8 * u) (MQ below (va_Qi (fun r X => r = 1 ∧ X.2.2.2 = (sp_pass σ P F x z M).2 ∧ tg P F R X.2.1 X.2.2.1 X.2.2.2 k (dy + M)) (fun X t => tl_Bx D d a0 w b cB Lh Ah A X t.heap) A) args s 4 32 A) (F0 m 6 ls []) := by
  intro kk
  induction kk with
  | zero =>
    intro u hu cv many hT hmy H locs hB hS ls hl
    obtain ⟨hok, hpd, -⟩ := id G
    have huN : u = M := by omega
    refine lv_iload hx hb dX5_pass_6 (lv_at hl 0 rfl) ?_
    refine lv_iload_n hx hb dX5_pass_8 rfl (lv_at hl 4 rfl) ?_
    refine lv_icmp_ge (tgt := 29) hx hb dX5_pass_9 (by decide) (fun c_9 => ?_) (fun c_9 => ?_)
    · refine lv_aload_n hx hb dX5_pass_29 rfl (lv_at hl 5 rfl) ?_
      refine tl_get hx hb hts (by decide +kernel) hown hKK.1 hB 0 (by decide) (hts (.fieldLink RX5 10 "WaxrowLaw$Told" "m" "LWaxrow;") (by decide +kernel)) rfl (v := .ref w) rfl dX5_pass_30 ?_
      refine lv_iload_n hx hb dX5_pass_33 rfl (lv_at hl 4 rfl) ?_
      refine lv_iload_n hx hb dX5_pass_34 rfl (lv_at hl 3 rfl) ?_
      refine lv_iload_n hx hb dX5_pass_35 rfl (lv_at hl 2 rfl) ?_
      refine tl_waxi (As := [.int (nI M), .int x, .int z]) ⟨hx, hb, hml, hown, hts⟩ (kX4_pass l D d Lh σ Ah w L2 (fun z => hH.2.2.1 (hH.2.1 w z)) P F R hok M hM1 (by omega) x z hx0 hx9 hz0 hz9) (cwV 3 hts gX5_pass_X4_pass rfl rfl rfl (by decide +kernel) ⟨Nat.le_of_ble_eq_true rfl, Nat.le_of_ble_eq_true rfl⟩) hKK hH hB hS rfl hl.1 (Nat.le_of_ble_eq_true rfl) dX5_pass_36 ⟨by show u + 0 ≤ 4; omega, by show 8 * u + 0 ≤ 32; omega⟩ rfl (fun r_ τ_ H locs hp hB hz hS => ?_)
      obtain ⟨h1_, rfl⟩ := hp
      have hB : tl_B D d a0 w b cB Lh Ah A L n cv ((sp_pass σ P F x z M).2) H := hB
      refine lv_iload hx hb dX5_pass_39 (lv_at hl 1 rfl) ?_
      refine lv_icmp_ne (tgt := 48) hx hb dX5_pass_41 (by decide) (fun c_41 => ?_) (fun c_41 => ?_)
      · exact absurd (h1_.symm.trans (by rw [hmy, huN])) c_41
      · refine lv_iconst (v := 1) hx hb dX5_pass_44 (by decide) ?_
        refine lv_goto (tgt := 49) hx hb dX5_pass_45 (by decide) ?_
        refine W.widen (k := 4) (n := 32) (by omega) (by omega) ?_
        exact W.zret (v := 1) (ty := .boolean) hx hb hr rfl (fun U9 ht hW9 => ⟨⟨1, (L, n, cv, (sp_pass σ P F x z M).2), rfl, ⟨rfl, rfl, sp_pass_ok x z hok M, pd_pass hpd (tg_hd G) x z M, by rw [huN] at hT; exact hT⟩, by show tl_Bx D d a0 w b cB Lh Ah A _ U9.heap; rw [ht]; exact hB⟩, hS.F ht⟩) hS.2.2 dX5_pass_49
    · exact absurd (by rw [huN]; exact nI_le (Nat.le_refl _) (by omega)) c_9
  | succ kk ih =>
    intro u hu cv many hT hmy H locs hB hS ls hl
    obtain ⟨hok, hpd, -⟩ := id G
    have huN : u < M := by omega
    refine lv_iload hx hb dX5_pass_6 (lv_at hl 0 rfl) ?_
    refine lv_iload_n hx hb dX5_pass_8 rfl (lv_at hl 4 rfl) ?_
    refine lv_icmp_ge (tgt := 29) hx hb dX5_pass_9 (by decide) (fun c_9 => ?_) (fun c_9 => ?_)
    · exact absurd c_9 (nI_ge huN (by omega))
    · refine lv_iload hx hb dX5_pass_12 (lv_at hl 1 rfl) ?_
      refine lv_aload_n hx hb dX5_pass_14 rfl (lv_at hl 5 rfl) ?_
      refine lv_iload_n hx hb dX5_pass_15 rfl (lv_at hl 3 rfl) ?_
      refine lv_iload_n hx hb dX5_pass_16 rfl (lv_at hl 2 rfl) ?_
      refine tl_calli (As := [.int x, .int z]) ⟨hx, hb, hml, hown, hts⟩ (kX5_go l D d a0 w b cB Lh L2 Ah A N xs L n cv σ H.size (hH.up hS.1) hN31 P F R k (dy + u) (sp_pass σ P F x z u).2 x z hT hP1 hP9 hF7 (by omega) (by omega)) (cwV 2 hts gX5_pass_X5_go rfl rfl rfl (by decide +kernel) ⟨Nat.le_of_ble_eq_true rfl, Nat.le_of_ble_eq_true rfl⟩) hKK hH hB hS rfl hl.1 (Nat.le_of_ble_eq_true rfl) dX5_pass_17 ⟨by show u + 1 ≤ 4; omega, by show 8 * u + 8 ≤ 32; omega⟩ rfl (fun r_ X_ H locs hp hB hz hS => ?_)
      obtain ⟨L_, n_, c9, s_⟩ := X_
      obtain ⟨e1_, e2_, e3_, e4_, e5_⟩ := hp
      have e1_ : L = L_ := e1_.symm
      subst e1_
      have e2_ : n = n_ := e2_.symm
      subst e2_
      have e3_ : σ = s_ := e3_.symm
      subst e3_
      have hB : tl_B D d a0 w b cB Lh Ah A L n c9 σ H := hB
      refine lv_iadd hx hb dX5_pass_20 ?_
      refine lv_istore (lv' := [(4, .int (many + r_)), (5, .int (nI u)), (3, .int z), (2, .int x), (1, .int (nI M)), (0, .ref a0)]) hx hb dX5_pass_21 hl (by decide) rfl (fun ls hl => ?_)
      refine lv_iinc (v := nI (u + 1)) (lv' := [(5, .int (nI (u + 1))), (4, .int (many + r_)), (3, .int z), (2, .int x), (1, .int (nI M)), (0, .ref a0)]) hx hb dX5_pass_23 hl (k := 1) rfl (nI_succ _).symm (by decide) rfl (fun ls hl => ?_)
      refine lv_goto (tgt := 6) hx hb dX5_pass_26 (by decide) ?_
      exact ih (u + 1) (by omega) c9 (many + r_) e5_ (by rw [hmy, e4_]; rfl) H locs hB hS ls (lv_sub hl [0, 1, 2, 3, 4, 5] rfl)
set_option maxHeartbeats 4000000 in
set_option maxRecDepth 100000 in
/-- Told: pass -/
theorem kX5_pass (l : Launch) (D : va_G) (d : hs_Dm) (a0 w b : Nat) (cB : ClassId) (Lh L2 : hs_Lo) (Ah A : Nat → Prop) (N : Nat) (xs : Nat → Int32) (L : hs_Lo) (n : Nat → Nat) (c σ : hs_St) (sz : Nat) (hH : tl_H w b Ah A sz) (hN31 : N < 2 ^ 31) (P F R k dy : Nat) (G : tg P F R n c σ k dy) (hP9 : P ≤ 7) (hF7 : F ≤ 7) (hR4 : R ≤ 4) (hk20 : k < 2 ^ 20) (hP1 : 1 ≤ P) (M : Nat) (hM1 : 1 ≤ M) (hM4 : M ≤ 4) (hdM : dy + M < 30) (x z : Int32) (hx0 : ¬ x < 0) (hx9 : x ≤ 2000) (hz0 : ¬ z < 0) (hz9 : z ≤ 40) : tl_Mi l yX5_pass wsX5_pass ({ frames := 6, cells := 4, slots := 32, locals := 150 }) D d a0 w b cB Lh L2 Ah A N xs L n c σ sz [.ref a0, .int (nI M), .int x, .int z] (fun r X => r = 1 ∧ X.2.2.2 = (sp_pass σ P F x z M).2 ∧ tg P F R X.2.1 X.2.2.1 X.2.2.2 k (dy + M)) 4 32 := by
  refine Met.ofW (cc := cX5_pass) (maxL := 6) (ret := (some .boolean)) (by decide) rfl ?_
  intro p e s m args below meth c0 s₁ B hml hv
  obtain ⟨rfl, hsz, hB, hKK⟩ := hv
  have hx := B.exec
  have hb := B.bytes
  have hr := B.returns
  have hts := atoms_spec (ws := wsX5_pass) B.pre
  have hown : s.vm.findClass RX5 = some m.cls := findClass_of_methodNamed B.named
  have hlocks := B.notSynchronized
  have hS : va_S A s.heap s.heap [] := va_S.rf
  have hH : tl_H w b Ah A s.heap.size := by rw [hsz]; exact hH
  have hl := lv_entry ([.ref a0, .int (nI M), .int x, .int z]) (n := 6) (Nat.le_of_ble_eq_true rfl)
  rw [lg_entry_eq]
  generalize (lg_sl ([.ref a0, .int (nI M), .int x, .int z]) ++ List.replicate (6 - (lg_sl ([.ref a0, .int (nI M), .int x, .int z])).length) Slot.unset).toArray = ls at hl ⊢
  have hl : lv_has ls 6 [(0, .ref a0), (1, .int (nI M)), (2, .int x), (3, .int z)] := hl
  refine lv_iconst (v := 0) hx hb dX5_pass_0 (by decide) ?_
  refine lv_istore (lv' := [(4, .int 0), (0, .ref a0), (1, .int (nI M)), (2, .int x), (3, .int z)]) hx hb dX5_pass_1 hl (by decide) rfl (fun ls hl => ?_)
  refine lv_iconst (v := 0) hx hb dX5_pass_3 (by decide) ?_
  refine lv_istore (lv' := [(5, .int 0), (4, .int 0), (0, .ref a0), (1, .int (nI M)), (2, .int x), (3, .int z)]) hx hb dX5_pass_4 hl (by decide) rfl (fun ls hl => ?_)
  exact lkX5_pass l D d a0 w b cB Lh L2 Ah A N xs L n c σ hN31 P F R k dy G hP9 hF7 hR4 hk20 hP1 M hM1 hM4 hdM x z hx0 hx9 hz0 hz9 hx hb hr hts hown hlocks hml hKK hH M 0 (by omega) c 0 G.2.2 rfl _ _ hB hS ls (lv_sub hl [0, 1, 5, 4, 3, 2] rfl)
