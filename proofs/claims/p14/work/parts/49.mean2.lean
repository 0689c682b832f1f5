/-! THE MEAN, where something is shown -/
theorem mp_n64 {a b : Int32} (hb : b ≠ 0) : vf_n64 (FP.ddiv (FP.i2d a) (FP.i2d b)) := by
  have h : FP.Core.dIsNaN (FP.Core.ddiv (FP.Core.i2d a) (FP.Core.i2d b)) = false := FP.Core.ddiv_out ((FP.Core.notNaN_iff _).mpr (FP.Core.i2d_fin a).ne_nan) (FP.Core.i2d_fin b) (fun z => FP.Core.i2d_ne_zero hb ((FP.Core.zero_bits2 _).mp z))
  show FP.Core.ddiv (FP.Core.i2d a) (FP.Core.i2d b) &&& 0x7fffffffffffffff ≤ 0x7ff0000000000000
  generalize FP.Core.ddiv (FP.Core.i2d a) (FP.Core.i2d b) = r at h ⊢
  rw [← Bool.not_eq_true, FP.Core.isNaN_bits] at h
  rw [UInt64.le_iff_toNat_le, UInt64.toNat_and]
  have h1 : (0x7fffffffffffffff : UInt64).toNat = 2 ^ 63 - 1 := by decide
  have h2 : (0x7ff0000000000000 : UInt64).toNat = 9218868437227405312 := by decide
  rw [h1, h2, Nat.and_two_pow_sub_one_eq_mod]
  omega
set_option maxHeartbeats 4000000 in
set_option maxRecDepth 100000 in
/-- meanLikeness, something shown -/
theorem kX4_meanLikeness_1 (l : Launch) (D : va_G) (d : hs_Dm) (L : hs_Lo) (σ : hs_St) (A : Nat → Prop) (w : Nat) (L2 : hs_Lo) (hwA : ¬ A w) (P F R : Nat) (hok : hs_ok P F R σ) (h0 : ¬ sp_figIn σ 0 4 F = 0) : wx_Md l yX4_meanLikeness wsX4_meanLikeness ({ frames := 4, cells := 0, slots := 0, locals := 80 }) D d w L L2 σ A [.ref w] (fun r τ => FP.ddiv (FP.i2d (sp_liked σ F)) (FP.i2d (sp_figIn σ 0 4 F)) = r ∧ σ = τ) := by
  refine Met.ofW (cc := cX4_meanLikeness) (maxL := 2) (ret := (some .double)) (by decide) rfl ?_
  intro p e s m args below meth c s₁ B hml hv
  obtain ⟨rfl, ⟨⟨hW, hK⟩, hX⟩, hV⟩ := hv
  have hE := hX.1
  have hx := B.exec
  have hb := B.bytes
  have hr := B.returns
  have hts := atoms_spec (ws := wsX4_meanLikeness) B.pre
  have hown : s.vm.findClass RX4 = some m.cls := findClass_of_methodNamed B.named
  have hlocks := B.notSynchronized
  have hS : va_S A s.heap s.heap [] := va_S.rf
  have hW : hs_W D d L σ A s.heap := hW
  have hl := lv_entry ([.ref w]) (n := 2) (Nat.le_of_ble_eq_true rfl)
  rw [lg_entry_eq]
  generalize (lg_sl ([.ref w]) ++ List.replicate (2 - (lg_sl ([.ref w])).length) Slot.unset).toArray = ls at hl ⊢
  have hl : lv_has ls 2 [(0, .ref w)] := hl
  have h10 := hok.1
  have h8 := hok.2.1
  have h5 := hok.2.2.1
  have hd_ := hok.hd
  refine lv_aload_n hx hb dX4_meanLikeness_0 rfl (lv_at hl 0 rfl) ?_
  refine va_get (D := D) (ci := cWx) (C := RX4) (T := TX4) (N := 2) (ws := [(w, .inr (cWx, [.ref (L 0 0), .ref (L2 0 0)]))]) (v := .ref (L 0 0)) hx hb hts (by decide +kernel) hown hK (wx_one hV hS hwA) 0 rfl rfl 0 (by decide) (hts (.fieldLink RX4 10 "Waxrow" "house" "LWaxrow$House;") (by decide +kernel)) (fun _ h9 => h9) rfl dX4_meanLikeness_1 ?_
  refine lv_iconst (v := 0) hx hb dX4_meanLikeness_4 (by decide) ?_
  refine lv_iconst (v := 4) hx hb dX4_meanLikeness_5 (by decide) ?_
  refine hs_calli (As := [.int 0, .int 4]) ⟨hx, hb, hml, hown, hts⟩ (kX1_figuresIn l D d L σ A 0 4 F hok.hF hok.2.1 ) (cwV 2 hts gX4_meanLikeness_X1_figuresIn rfl rfl rfl (by decide +kernel) ⟨Nat.le_of_ble_eq_true rfl, Nat.le_of_ble_eq_true rfl⟩) hK hE hW hS hs_ix0 (ci := cHo) (r := (RX1, TX1, 11)) rfl rfl rfl rfl hl.1 (Nat.le_of_ble_eq_true rfl) dX4_meanLikeness_6 ⟨Nat.zero_le _, Nat.zero_le _⟩ rfl (fun r_ τ_ H locs hp hW hS => ?_)
  obtain ⟨rfl, rfl⟩ := hp
  refine lv_istore_n (lv' := [(1, .int (sp_figIn σ 0 4 F)), (0, .ref w)]) hx hb dX4_meanLikeness_9 rfl hl (by decide) rfl (fun ls hl => ?_)
  refine lv_iload_n hx hb dX4_meanLikeness_10 rfl (lv_at hl 0 rfl) ?_
  refine lv_if_ne (tgt := 16) hx hb dX4_meanLikeness_11 (by decide) (fun c_11 => ?_) (fun c_11 => ?_)
  · refine lv_aload_n hx hb dX4_meanLikeness_16 rfl (lv_at hl 1 rfl) ?_
    refine va_get (D := D) (ci := cWx) (C := RX4) (T := TX4) (N := 2) (ws := [(w, .inr (cWx, [.ref (L 0 0), .ref (L2 0 0)]))]) (v := .ref (L 0 0)) hx hb hts (by decide +kernel) hown hK (wx_one hV hS hwA) 0 rfl rfl 0 (by decide) (hts (.fieldLink RX4 10 "Waxrow" "house" "LWaxrow$House;") (by decide +kernel)) (fun _ h9 => h9) rfl dX4_meanLikeness_17 ?_
    refine hs_calli (As := []) ⟨hx, hb, hml, hown, hts⟩ (kX1_likenessShown l D d L σ A F hok.hF hok.2.1  hok.hd) (cwV 0 hts gX4_meanLikeness_X1_likenessShown rfl rfl rfl (by decide +kernel) ⟨Nat.le_of_ble_eq_true rfl, Nat.le_of_ble_eq_true rfl⟩) hK hE hW hS hs_ix0 (ci := cHo) (r := (RX1, TX1, 11)) rfl rfl rfl rfl hl.1 (Nat.le_of_ble_eq_true rfl) dX4_meanLikeness_20 ⟨Nat.zero_le _, Nat.zero_le _⟩ rfl (fun r_ τ_ H locs hp hW hS => ?_)
    obtain ⟨rfl, rfl⟩ := hp
    refine lv_i2d hx hb dX4_meanLikeness_23 ?_
    refine lv_iload_n hx hb dX4_meanLikeness_24 rfl (lv_at hl 0 rfl) ?_
    refine lv_i2d hx hb dX4_meanLikeness_25 ?_
    refine lv_ddiv hx hb dX4_meanLikeness_26 (mp_n64 h0) ?_
    exact W.dret (v := FP.ddiv (FP.i2d (sp_liked σ F)) (FP.i2d (sp_figIn σ 0 4 F))) hx hb hr (fun t ht hW9 => ⟨⟨FP.ddiv (FP.i2d (sp_liked σ F)) (FP.i2d (sp_figIn σ 0 4 F)), σ, rfl, ⟨rfl, rfl⟩, by rw [ht]; exact hW, va_K.moved hW9.alike hK⟩, hS.F ht⟩) hS.2.2 dX4_meanLikeness_27
  · exact absurd c_11 h0
def mp_liked (ρ : hs_St) : Nat → Int32
  | 0 => 0
  | n + 1 => mp_liked ρ n + (if mp_isShown ρ n = 0 then 0 else mp_like ρ n)
def mp_mean (ρ : hs_St) (F : Nat) : UInt64 := if mp_cnt ρ 0 4 F = 0 then FP.dconst0 else FP.ddiv (FP.i2d (mp_liked ρ F)) (FP.i2d (mp_cnt ρ 0 4 F))
set_option maxHeartbeats 4000000 in
set_option maxRecDepth 100000 in
/-- the reference: X6_meanLikeness: the loop at 9 -/
theorem lkX6_meanLikeness (l : Launch) (D : va_G) (d : hs_Dm) (cB : ClassId) (L : hs_Lo) (m0 : Nat) (th : Int32) (ρ : hs_St) (A : Nat → Prop) (sz : Nat) (P F R : Nat) (hok : mh_ok P F R ρ) {p : Program} {e : Env} {s : State} {m : MethodId} {args : Array Value} {below : List Frame} {meth : Method} {c0 : Code} (hx : p.tables.exec = Jvm.exec) (hb : c0.code = cX6_meanLikeness) (hr : meth.sig.returnType = (some .double)) (hts : ∀ w ∈ wsX6_meanLikeness, w.before args s = true) (hown : s.vm.findClass RX6 = some m.cls) (hlocks : meth.locks = false) (hml : c0.maxLocals = 3) (hKK : mh_K D d cB s) {Q : State → Prop} (kK : ∀ (H : Heap) (locs : List Loc), mm_W D d cB L m0 0 ρ A H → va_S A s.heap H locs → ∀ ls : Array Slot, lv_has ls 3 [(1, .int (mp_liked ρ F)), (0, .ref m0)] → W p l e (({ frames := 3, cells := 0, slots := 0, locals := 100 } : Room)) s m args below meth c0 H locs 0 0 Q (F0 m 68 ls [])) : ∀ (kk n : Nat), n + kk = F → ∀ (H : Heap) (locs : List Loc), mm_W D d cB L m0 0 ρ A H → va_S A s.heap H locs → ∀ ls : Array Slot, lv_has ls 3 [(2, .int (nI n)), (1, .int (mp_liked ρ n)), (0, .ref m0)] → W p l e (({ frames := 3, cells := 0, slots := 0, locals := 100 } : Room)) s m args below meth c0 H locs 0 0 Q (F0 m 9 ls []) := by
  intro kk
  induction kk with
  | zero =>
    intro n hn H locs hM hS ls hl
    have hnN : n = F := by omega
    have hW := hM.2.1
    have hF8 := hok.2.1
    refine lv_iload_n hx hb dX6_meanLikeness_9 rfl (lv_at hl 0 rfl) ?_
    refine lv_aload_n hx hb dX6_meanLikeness_10 rfl (lv_at hl 2 rfl) ?_
    refine mm_house hx hb hts (by decide +kernel) hown hKK.1 hM (hts (.fieldLink RX6 10 "WaxrowModel" "house" "LWaxrowModel$House;") (by decide +kernel)) dX6_meanLikeness_11 ?_
    have hW := hM.2.1
    refine mh_get hx hb hts (by decide +kernel) hown hKK.1 hW 7 (by decide) (hts (.fieldLink RX6 36 "WaxrowModel$House" "figureCount" "I") (by decide +kernel)) rfl (v := .int (ρ 0 0 7)) rfl dX6_meanLikeness_14 ?_
    rw [show ρ 0 0 7 = nI F from hok.2.2.2.2.1]
    refine lv_icmp_ge (tgt := 68) hx hb dX6_meanLikeness_17 (by decide) (fun c_17 => ?_) (fun c_17 => ?_)
    · subst hnN
      exact kK _ _ hM hS ls (lv_sub hl [1, 2] rfl)
    · exact absurd (by rw [hnN]; exact nI_le (a := F) (b := F) (Nat.le_refl _) (by omega)) c_17
  | succ kk ih =>
    intro n hn H locs hM hS ls hl
    have hnN : n < F := by omega
    have hW := hM.2.1
    have hF8 := hok.2.1
    refine lv_iload_n hx hb dX6_meanLikeness_9 rfl (lv_at hl 0 rfl) ?_
    refine lv_aload_n hx hb dX6_meanLikeness_10 rfl (lv_at hl 2 rfl) ?_
    refine mm_house hx hb hts (by decide +kernel) hown hKK.1 hM (hts (.fieldLink RX6 10 "WaxrowModel" "house" "LWaxrowModel$House;") (by decide +kernel)) dX6_meanLikeness_11 ?_
    have hW := hM.2.1
    refine mh_get hx hb hts (by decide +kernel) hown hKK.1 hW 7 (by decide) (hts (.fieldLink RX6 36 "WaxrowModel$House" "figureCount" "I") (by decide +kernel)) rfl (v := .int (ρ 0 0 7)) rfl dX6_meanLikeness_14 ?_
    rw [show ρ 0 0 7 = nI F from hok.2.2.2.2.1]
    refine lv_icmp_ge (tgt := 68) hx hb dX6_meanLikeness_17 (by decide) (fun c_17 => ?_) (fun c_17 => ?_)
    · exact absurd c_17 (nI_ge (b := F) hnN (by omega))
    · refine lv_iload_n hx hb dX6_meanLikeness_20 rfl (lv_at hl 1 rfl) ?_
      refine lv_aload_n hx hb dX6_meanLikeness_21 rfl (lv_at hl 2 rfl) ?_
      refine mm_house hx hb hts (by decide +kernel) hown hKK.1 hM (hts (.fieldLink RX6 10 "WaxrowModel" "house" "LWaxrowModel$House;") (by decide +kernel)) dX6_meanLikeness_22 ?_
      have hW := hM.2.1
      refine lv_aload_n hx hb dX6_meanLikeness_25 rfl (lv_at hl 2 rfl) ?_
      refine mm_house hx hb hts (by decide +kernel) hown hKK.1 hM (hts (.fieldLink RX6 10 "WaxrowModel" "house" "LWaxrowModel$House;") (by decide +kernel)) dX6_meanLikeness_26 ?_
      have hW := hM.2.1
      refine mh_get hx hb hts (by decide +kernel) hown hKK.1 hW 3 (by decide) (hts (.fieldLink RX6 60 "WaxrowModel$House" "figures" "[[I") (by decide +kernel)) rfl (v := .ref (L 4 0)) rfl dX6_meanLikeness_29 ?_
      refine lv_iload_n hx hb dX6_meanLikeness_32 rfl (lv_at hl 0 rfl) ?_
      refine mh_aald hx hb hKK.2.1 hW 4 n (by decide) (by decide) (by show n < mh_n 4; unfold mh_n; simp; omega) dX6_meanLikeness_33 ?_
      refine mh_callo (As := [.ref (L 14 n)]) ⟨hx, hb, hml, hown, hts⟩ (kX5_isShown l D d cB L ρ (mh_own L) H.size n (by omega)) (cwV 1 hts gX6_meanLikeness_X5_isShown rfl rfl rfl (by decide +kernel) ⟨Nat.le_of_ble_eq_true rfl, Nat.le_of_ble_eq_true rfl⟩) hKK hW hS rfl hl.1 (Nat.le_of_ble_eq_true rfl) dX6_meanLikeness_34 ⟨Nat.le_of_ble_eq_true rfl, Nat.le_of_ble_eq_true rfl⟩ rfl (fun r_ τ_ H locs hp hW hz hqq hS => ?_)
      obtain ⟨e1_, e2_⟩ := hp
      subst e1_ e2_
      have hM : mm_W D d cB L m0 (0 : Int32) ρ A H := ⟨hM.1.kept (hqq _ hM.1.lt (fun ⟨k9, i9, hx9, e9⟩ => hM.2.2.2 k9 i9 hx9 e9.symm)), hW, hM.2.2⟩
      refine lv_if_eq (tgt := 59) hx hb dX6_meanLikeness_37 (by decide) (fun c_37 => ?_) (fun c_37 => ?_)
      · refine lv_iconst (v := 0) hx hb dX6_meanLikeness_59 (by decide) ?_
        refine lv_iadd hx hb dX6_meanLikeness_60 ?_
        rw [show (mp_liked ρ n) + 0 = mp_liked ρ (n + 1) from (by show _ = mp_liked ρ n + _; rw [if_pos c_37])]
        refine lv_istore_n (lv' := [(1, .int (mp_liked ρ (n + 1))), (2, .int (nI n)), (0, .ref m0)]) hx hb dX6_meanLikeness_61 rfl hl (by decide) rfl (fun ls hl => ?_)
        refine lv_iinc (v := nI (n + 1)) (lv' := [(2, .int (nI (n + 1))), (1, .int (mp_liked ρ (n + 1))), (0, .ref m0)]) hx hb dX6_meanLikeness_62 hl (k := 1) rfl (nI_succ _).symm (by decide) rfl (fun ls hl => ?_)
        refine lv_goto (tgt := 9) hx hb dX6_meanLikeness_65 (by decide) ?_
        have hM : mm_W D d cB L m0 0 ρ A H := hM
        exact ih (n + 1) (by omega) _ _ hM hS ls (lv_sub hl [0, 1, 2] rfl)
      · refine lv_aload_n hx hb dX6_meanLikeness_40 rfl (lv_at hl 2 rfl) ?_
        refine mm_house hx hb hts (by decide +kernel) hown hKK.1 hM (hts (.fieldLink RX6 10 "WaxrowModel" "house" "LWaxrowModel$House;") (by decide +kernel)) dX6_meanLikeness_41 ?_
        have hW := hM.2.1
        refine lv_aload_n hx hb dX6_meanLikeness_44 rfl (lv_at hl 2 rfl) ?_
        refine mm_house hx hb hts (by decide +kernel) hown hKK.1 hM (hts (.fieldLink RX6 10 "WaxrowModel" "house" "LWaxrowModel$House;") (by decide +kernel)) dX6_meanLikeness_45 ?_
        have hW := hM.2.1
        refine mh_get hx hb hts (by decide +kernel) hown hKK.1 hW 3 (by decide) (hts (.fieldLink RX6 60 "WaxrowModel$House" "figures" "[[I") (by decide +kernel)) rfl (v := .ref (L 4 0)) rfl dX6_meanLikeness_48 ?_
        refine lv_iload_n hx hb dX6_meanLikeness_51 rfl (lv_at hl 0 rfl) ?_
        refine mh_aald hx hb hKK.2.1 hW 4 n (by decide) (by decide) (by show n < mh_n 4; unfold mh_n; simp; omega) dX6_meanLikeness_52 ?_
        refine mh_callo (As := [.ref (L 14 n)]) ⟨hx, hb, hml, hown, hts⟩ (kX5_likeness l D d cB L ρ (mh_own L) H.size n (by omega) (by obtain ⟨h_, h1_, h2_⟩ := (hok.2.2.2.2.2.2 n hnN).1; exact ⟨h_, by have := hok.1; omega, h2_⟩) (by obtain ⟨h_, h1_, h2_⟩ := (hok.2.2.2.2.2.2 n hnN).2.1; exact ⟨h_, by have := hok.1; omega, h2_⟩)) (cwV 1 hts gX6_meanLikeness_X5_likeness rfl rfl rfl (by decide +kernel) ⟨Nat.le_of_ble_eq_true rfl, Nat.le_of_ble_eq_true rfl⟩) hKK hW hS rfl hl.1 (Nat.le_of_ble_eq_true rfl) dX6_meanLikeness_53 ⟨Nat.le_of_ble_eq_true rfl, Nat.le_of_ble_eq_true rfl⟩ rfl (fun r_ τ_ H locs hp hW hz hqq hS => ?_)
        obtain ⟨e1_, e2_⟩ := hp
        subst e1_ e2_
        have hM : mm_W D d cB L m0 (0 : Int32) ρ A H := ⟨hM.1.kept (hqq _ hM.1.lt (fun ⟨k9, i9, hx9, e9⟩ => hM.2.2.2 k9 i9 hx9 e9.symm)), hW, hM.2.2⟩
        refine lv_goto (tgt := 60) hx hb dX6_meanLikeness_56 (by decide) ?_
        refine lv_iadd hx hb dX6_meanLikeness_60 ?_
        rw [show (mp_liked ρ n) + (mp_like ρ n) = mp_liked ρ (n + 1) from (by show _ = mp_liked ρ n + _; rw [if_neg c_37])]
        refine lv_istore_n (lv' := [(1, .int (mp_liked ρ (n + 1))), (2, .int (nI n)), (0, .ref m0)]) hx hb dX6_meanLikeness_61 rfl hl (by decide) rfl (fun ls hl => ?_)
        refine lv_iinc (v := nI (n + 1)) (lv' := [(2, .int (nI (n + 1))), (1, .int (mp_liked ρ (n + 1))), (0, .ref m0)]) hx hb dX6_meanLikeness_62 hl (k := 1) rfl (nI_succ _).symm (by decide) rfl (fun ls hl => ?_)
        refine lv_goto (tgt := 9) hx hb dX6_meanLikeness_65 (by decide) ?_
        have hM : mm_W D d cB L m0 0 ρ A H := hM
        exact ih (n + 1) (by omega) _ _ hM hS ls (lv_sub hl [0, 1, 2] rfl)
set_option maxHeartbeats 4000000 in
set_option maxRecDepth 100000 in
/-- the reference: X6_meanLikeness -/
theorem kX6_meanLikeness (l : Launch) (D : va_G) (d : hs_Dm) (cB : ClassId) (L : hs_Lo) (m0 : Nat) (th : Int32) (ρ : hs_St) (A : Nat → Prop) (sz : Nat) (P F R : Nat) (hok : mh_ok P F R ρ) : mm_Md l yX6_meanLikeness wsX6_meanLikeness ({ frames := 3, cells := 0, slots := 0, locals := 100 } : Room) D d cB L m0 th ρ A sz [.ref m0] (fun r X => mp_mean ρ F = r ∧ (0 : Int32) = X.1 ∧ ρ = X.2) 0 0 := by
  refine Met.ofW (cc := cX6_meanLikeness) (maxL := 3) (ret := (some .double)) (by decide) rfl ?_
  intro p e s m args below meth c0 s₁ B hml hv
  obtain ⟨rfl, hsz, hM, hKK⟩ := hv
  have hx := B.exec
  have hb := B.bytes
  have hr := B.returns
  have hts := atoms_spec (ws := wsX6_meanLikeness) B.pre
  have hown : s.vm.findClass RX6 = some m.cls := findClass_of_methodNamed B.named
  have hlocks := B.notSynchronized
  have hS : va_S A s.heap s.heap [] := va_S.rf
  have hl := lv_entry ([.ref m0]) (n := 3) (Nat.le_of_ble_eq_true rfl)
  rw [lg_entry_eq]
  generalize (lg_sl ([.ref m0]) ++ List.replicate (3 - (lg_sl ([.ref m0])).length) Slot.unset).toArray = ls at hl ⊢
  have hl : lv_has ls 3 [(0, .ref m0)] := hl
  refine lv_aload_n hx hb dX6_meanLikeness_0 rfl (lv_at hl 0 rfl) ?_
  refine lv_iconst (v := 0) hx hb dX6_meanLikeness_1 (by decide) ?_
  refine mm_putt hx hb hts (by decide +kernel) hown hKK.1 hM hS (hts (.fieldLink RX6 16 "WaxrowModel" "thrown" "I") (by decide +kernel)) (0 : Int32) dX6_meanLikeness_2 (fun H locs hM hS hz => ?_)
  have hM : mm_W D d cB L m0 0 ρ A H := hM
  have hW := hM.2.1
  refine lv_iconst (v := 0) hx hb dX6_meanLikeness_5 (by decide) ?_
  refine lv_istore_n (lv' := [(1, .int 0), (0, .ref m0)]) hx hb dX6_meanLikeness_6 rfl hl (by decide) rfl (fun ls hl => ?_)
  refine lv_iconst (v := 0) hx hb dX6_meanLikeness_7 (by decide) ?_
  refine lv_istore_n (lv' := [(2, .int 0), (1, .int 0), (0, .ref m0)]) hx hb dX6_meanLikeness_8 rfl hl (by decide) rfl (fun ls hl => ?_)
  refine lkX6_meanLikeness l D d cB L m0 0 ρ A sz P F R hok hx hb hr hts hown hlocks hml hKK (fun H locs hM hS ls hl => ?_) F 0 (by omega) _ _ hM hS ls (lv_sub hl [0, 1, 2] rfl)
  have hW := hM.2.1
  refine lv_aload_n hx hb dX6_meanLikeness_68 rfl (lv_at hl 1 rfl) ?_
  refine lv_iconst (v := 0) hx hb dX6_meanLikeness_69 (by decide) ?_
  refine lv_iconst (v := 4) hx hb dX6_meanLikeness_70 (by decide) ?_
  refine mm_calli (As := [.int 0, .int 4]) ⟨hx, hb, hml, hown, hts⟩ (kX6_countAt l D d cB L m0 (0 : Int32) ρ A H.size P F R hok 0 4) (cwV 2 hts gX6_meanLikeness_X6_countAt rfl rfl rfl (by decide +kernel) ⟨Nat.le_of_ble_eq_true rfl, Nat.le_of_ble_eq_true rfl⟩) hKK hM hS rfl hl.1 (Nat.le_of_ble_eq_true rfl) dX6_meanLikeness_71 ⟨Nat.le_of_ble_eq_true rfl, Nat.le_of_ble_eq_true rfl⟩ rfl (fun r_ X_ H locs hp hM hz hS => ?_)
  obtain ⟨t_, τ_⟩ := X_
  obtain ⟨e1_, e2_, e3_⟩ := hp
  have e2_ : (0 : Int32) = t_ := e2_
  have e3_ : ρ = τ_ := e3_
  subst e1_ e2_ e3_
  have hM : mm_W D d cB L m0 0 ρ A H := hM
  have hW := hM.2.1
  refine lv_istore_n (lv' := [(2, .int (mp_cnt ρ 0 4 F)), (1, .int (mp_liked ρ F)), (0, .ref m0)]) hx hb dX6_meanLikeness_74 rfl hl (by decide) rfl (fun ls hl => ?_)
  refine lv_iload_n hx hb dX6_meanLikeness_75 rfl (lv_at hl 0 rfl) ?_
  refine lv_if_ne (tgt := 83) hx hb dX6_meanLikeness_76 (by decide) (fun c_76 => ?_) (fun c_76 => ?_)
  · refine lv_iload_n hx hb dX6_meanLikeness_83 rfl (lv_at hl 1 rfl) ?_
    refine lv_i2d hx hb dX6_meanLikeness_84 ?_
    refine lv_iload_n hx hb dX6_meanLikeness_85 rfl (lv_at hl 0 rfl) ?_
    refine lv_i2d hx hb dX6_meanLikeness_86 ?_
    refine lv_ddiv hx hb dX6_meanLikeness_87 (mp_n64 c_76) ?_
    exact W.dret (v := FP.ddiv (FP.i2d (mp_liked ρ F)) (FP.i2d (mp_cnt ρ 0 4 F))) hx hb hr (fun t ht hW9 => ⟨⟨FP.ddiv (FP.i2d (mp_liked ρ F)) (FP.i2d (mp_cnt ρ 0 4 F)), (0, ρ), rfl, ⟨by unfold mp_mean; rw [if_neg c_76], rfl, rfl⟩, by show mm_W D d cB L m0 _ _ A t.heap; rw [ht]; exact hM⟩, hS.F ht⟩) hS.2.2 dX6_meanLikeness_88
  · refine lv_dconst0 hx hb dX6_meanLikeness_79 ?_
    refine lv_goto (tgt := 88) hx hb dX6_meanLikeness_80 (by decide) ?_
    exact W.dret (v := FP.dconst0) hx hb hr (fun t ht hW9 => ⟨⟨FP.dconst0, (0, ρ), rfl, ⟨by unfold mp_mean; rw [if_pos c_76], rfl, rfl⟩, by show mm_W D d cB L m0 _ _ A t.heap; rw [ht]; exact hM⟩, hS.F ht⟩) hS.2.2 dX6_meanLikeness_88
