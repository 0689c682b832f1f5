/-! THE MEAN where nothing is shown -/
abbrev wx_Md (l : Launch) (y : MethodName) (ws : List Cond) (rm : Room) (D : va_G) (d : hs_Dm) (w : Nat) (L L2 : hs_Lo) (σ : hs_St) (A : Nat → Prop) (av : List Value) (post : UInt64 → hs_St → Prop) : Prop := Met l y ws rm (va_Pc av (wx_C D d w L L2 σ A)) (va_Qd post (fun τ t => hs_B D d L τ A t) A) 0 0 A
set_option maxHeartbeats 4000000 in
set_option maxRecDepth 100000 in
/-- meanLikeness, nothing shown -/
theorem kX4_meanLikeness_0 (l : Launch) (D : va_G) (d : hs_Dm) (L : hs_Lo) (σ : hs_St) (A : Nat → Prop) (w : Nat) (L2 : hs_Lo) (hwA : ¬ A w) (P F R : Nat) (hok : hs_ok P F R σ) (h0 : sp_figIn σ 0 4 F = 0) : wx_Md l yX4_meanLikeness wsX4_meanLikeness ({ frames := 4, cells := 0, slots := 0, locals := 80 }) D d w L L2 σ A [.ref w] (fun r τ => FP.dconst0 = r ∧ σ = τ) := by
  refine Met.ofW (cc := cX4_meanLikeness) (maxL := 2) (ret := (some .double)) (by decide) rfl ?_
  intro p e s m args below meth c s₁ B hml hv
  obtain ⟨rfl, ⟨⟨hW, hK⟩, hX⟩, hV⟩ := hv
  have hE := hX.1
  have hx := B.exec
  have hb := B.bytes
  have hr := B.returns
  have hts := atoms_spec (ws := wsX4_meanLikeness) B.pre
  have hown : s.vm.findClass RX4 = some m.cls := findClass_of_methodNamed B.named
  have hlocks := B.notSynchronized
  have hS : va_S A s.heap s.heap [] := va_S.rf
  have hW : hs_W D d L σ A s.heap := hW
  have hl := lv_entry ([.ref w]) (n := 2) (Nat.le_of_ble_eq_true rfl)
  rw [lg_entry_eq]
  generalize (lg_sl ([.ref w]) ++ List.replicate (2 - (lg_sl ([.ref w])).length) Slot.unset).toArray = ls at hl ⊢
  have hl : lv_has ls 2 [(0, .ref w)] := hl
  refine lv_aload_n hx hb dX4_meanLikeness_0 rfl (lv_at hl 0 rfl) ?_
  refine va_get (D := D) (ci := cWx) (C := RX4) (T := TX4) (N := 2) (ws := [(w, .inr (cWx, [.ref (L 0 0), .ref (L2 0 0)]))]) (v := .ref (L 0 0)) hx hb hts (by decide +kernel) hown hK (wx_one hV hS hwA) 0 rfl rfl 0 (by decide) (hts (.fieldLink RX4 10 "Waxrow" "house" "LWaxrow$House;") (by decide +kernel)) (fun _ h9 => h9) rfl dX4_meanLikeness_1 ?_
  refine lv_iconst (v := 0) hx hb dX4_meanLikeness_4 (by decide) ?_
  refine lv_iconst (v := 4) hx hb dX4_meanLikeness_5 (by decide) ?_
  refine hs_calli (As := [.int 0, .int 4]) ⟨hx, hb, hml, hown, hts⟩ (kX1_figuresIn l D d L σ A 0 4 F hok.hF hok.2.1) (cwV 2 hts gX4_meanLikeness_X1_figuresIn rfl rfl rfl (by decide +kernel) ⟨Nat.le_of_ble_eq_true rfl, Nat.le_of_ble_eq_true rfl⟩) hK hE hW hS hs_ix0 (ci := cHo) (r := (RX1, TX1, 11)) rfl rfl rfl rfl hl.1 (Nat.le_of_ble_eq_true rfl) dX4_meanLikeness_6 ⟨Nat.zero_le _, Nat.zero_le _⟩ rfl (fun r_ τ_ H locs hp hW hS => ?_)
  obtain ⟨rfl, rfl⟩ := hp
  refine lv_istore_n (lv' := [(1, .int (sp_figIn σ 0 4 F)), (0, .ref w)]) hx hb dX4_meanLikeness_9 rfl hl (by decide) rfl (fun ls hl => ?_)
  refine lv_iload_n hx hb dX4_meanLikeness_10 rfl (lv_at hl 0 rfl) ?_
  refine lv_if_ne (tgt := 16) hx hb dX4_meanLikeness_11 (by decide) (fun c_11 => ?_) (fun c_11 => ?_)
  · exact absurd h0 c_11
  · refine lv_dconst0 hx hb dX4_meanLikeness_14 ?_
    exact W.dret (v := FP.dconst0) hx hb hr (fun t ht hW9 => ⟨⟨FP.dconst0, σ, rfl, ⟨rfl, rfl⟩, by rw [ht]; exact hW, va_K.moved hW9.alike hK⟩, hS.F ht⟩) hS.2.2 dX4_meanLikeness_15
