/-! NOBODY AHEAD: isBehind -/
def bh_I (σ : hs_St) (p k : Nat) (i : Int32) : Prop := i = 0 ∨ (i = 1 ∧ ¬ σ 4 p 5 = 0 ∧ ∀ f, f < k → σ 9 f 7 = 7 ∨ ¬ (σ 9 f 0).toNatClampNeg = p)
theorem bh_1 {σ : hs_St} {p k : Nat} {i : Int32} (h : bh_I σ p k i) (hk : σ 9 k 7 = 7 ∨ ¬ (σ 9 k 0).toNatClampNeg = p) : bh_I σ p (k + 1) (i &&& 1) := by
  rcases h with rfl | ⟨rfl, h1, h2⟩
  · exact Or.inl (by decide)
  · refine Or.inr ⟨by decide, h1, fun f hf => ?_⟩
    by_cases e : f = k
    · rw [e]; exact hk
    · exact h2 f (by omega)
theorem bh_0 {σ : hs_St} {p k : Nat} {i : Int32} (h : bh_I σ p k i) : bh_I σ p (k + 1) (i &&& 0) := by
  rcases h with rfl | ⟨rfl, h1, h2⟩
  · exact Or.inl (by decide)
  · exact Or.inl (by decide)
theorem bh_el {σ : hs_St} {p F : Nat} {i : Int32} (h : bh_I σ p F i) (hi : ¬ i = 0) : bn_el σ F p := by
  rcases h with rfl | ⟨rfl, h1, h2⟩
  · exact absurd rfl hi
  · exact ⟨h1, bn_has σ p F 0 (fun f _ hf => h2 f (by omega))⟩
theorem bh_start {σ : hs_St} {p F : Nat} (h : sp_ofP σ F p 6 = 1) : bh_I σ p 0 1 := by
  refine Or.inr ⟨rfl, fun z => ?_, fun f hf => absurd hf (Nat.not_lt_zero _)⟩
  rw [show sp_ofP σ F p 6 = 0 from if_pos z] at h
  exact absurd h (by decide)
theorem nI_inj {a b : Nat} (ha : a < 2 ^ 31) (hb : b < 2 ^ 31) (h : nI a = nI b) : a = b := by
  have := congrArg Int32.toNatClampNeg h
  rw [nI_clamp ha, nI_clamp hb] at this
  exact this
theorem nI_lt' {a b : Nat} (ha : a < 2 ^ 31) (hb : b < 2 ^ 31) (h : nI a < nI b) : a < b := Nat.lt_of_not_le fun z => by
  have := nI_le z ha
  rw [Int32.lt_iff_toInt_lt] at h
  rw [Int32.le_iff_toInt_le] at this
  omega
section BHR
variable {p : Program} {l : Launch} {e : Env} {R : Room} {s : State} {m : MethodId} {args : Array Value} {below : List Frame} {meth : Method} {c0 : Code} {H : Heap} {locs : List Loc} {cells slots : Nat} {Q : State → Prop}
variable {cc : ByteArray} {pc : Nat} {ls : Array Slot} {rest : List Value} {D : va_G} {d : hs_Dm} {w : Nat} {L L2 : hs_Lo} {A : Nat → Prop} {σ : hs_St}
variable {y : MethodName} {bytes : ByteArray} {maxL nL na index : Nat} {ret : Option FieldType} {ws : List Cond} {rm : Room} {Ts : List Cond} {own : String} {As st : List Value}
/-- a Waxrow is asked: it says v, and is as before -/
theorem bh_ask {v : Int32} (S : CallFix p m c0 cc nL s args Ts own) (hM : wx_Mi l y ws rm D d w L L2 σ A (.ref w :: As) (fun r τ => v = r ∧ σ = τ)) (cw : CallW R s args own RX4 index y bytes maxL ret ws rm 0 0 na) (hK : va_K D vwCl (hs_ty d) s) (hX : hx_E d.2.2.2.2 A s) (hwA : ¬ A w) (hV : va_at D vwCl (w, .inr (cWx, [.ref (L 0 0), .ref (L2 0 0)])) H) (hW : hs_W D d L σ A H) (hS : va_S A s.heap H locs) (hn : As.length = na) (hsize : ls.size = nL) (hrest : (rest.map fun v => v.category).sum ≤ 8) (hdg : decode cc pc = .ok (.invokevirtual index, 3)) (hf : cells + 0 ≤ R.cells ∧ slots + 0 ≤ R.slots) (hst : st = As.reverse ++ .ref w :: rest)
    (kk : ∀ (H1 : Heap) (locs1 : List Loc), va_at D vwCl (w, .inr (cWx, [.ref (L 0 0), .ref (L2 0 0)])) H1 → hs_W D d L σ A H1 → va_S A s.heap H1 locs1 → W p l e R s m args below meth c0 H1 locs1 cells slots Q (F0 m (pc + 3) ls (.int v :: rest))) : W p l e R s m args below meth c0 H locs cells slots Q (F0 m pc ls st) := by
  subst hst
  refine va_calli (va_runV S hM cw ⟨wx_blind, va_recv hK (fun k q hk => by cases k with | zero => cases hk; exact hV | succ k => simp at hk) (q0 := 0) (ws := [(w, .inr (cWx, [.ref (L 0 0), .ref (L2 0 0)]))]) (show vwCl[cWx]? = some (RX4, TX4, 2) from rfl) rfl, fun U hU hW9 => ⟨rfl, ⟨⟨by rw [hU]; exact hW, va_K.moved hW9.alike hK⟩, hX.on hW9 hU hS⟩, by rw [hU]; exact hV⟩⟩ rfl hn hsize rfl (lv_room hrest) hdg hf) hS (fun q _ h => h) (fun q h => h) (fun r τ t H1 locs1 ht _ hp hB1 hz hq hS1 => ?_)
  obtain ⟨e1, e2⟩ := hp
  subst e1 e2
  obtain ⟨hW1, -⟩ := hB1
  rw [ht] at hW1
  exact kk H1 locs1 (hV.kept (hq _ hV.lt hwA)) hW1 hS1
end BHR
set_option maxHeartbeats 4000000 in
set_option maxRecDepth 100000 in
/-- isBehind: the loop at 31 -/
theorem lkL_isBehind_in {p : Program} (l : Launch) {e : Env} {s : State} {m : MethodId} {args : Array Value} {below : List Frame} {meth : Method} {c0 : Code} (D : va_G) (d : hs_Dm) (L : hs_Lo) (σ : hs_St) (A : Nat → Prop) (w : Nat) (L2 : hs_Lo) (hwA : ¬ A w) (hok : hs_ok 4 5 3 σ) (q : Nat) (hq : q < 4) (j : Nat) (hj : j < 4) (hx : p.tables.exec = Jvm.exec) (hb : c0.code = cL_isBehind) (hr : meth.sig.returnType = (some .boolean)) (hts : ∀ w ∈ wsL_isBehind, w.before args s = true) (hown : s.vm.findClass RL = some m.cls) (hlocks : meth.locks = false) (hml : c0.maxLocals = 5) (hK : va_K D vwCl (hs_ty d) s) (hX : hx_E d.2.2.2.2 A s) (kx : ∀ (i : Int32) (H : Heap) (locs : List Loc), bh_I σ j 5 i → va_at D vwCl (w, .inr (cWx, [.ref (L 0 0), .ref (L2 0 0)])) H → hs_W D d L σ A H → va_S A s.heap H locs → ∀ ls : Array Slot, lv_has ls 5 [(4, .int (nI 5)), (3, .int i), (2, .int (nI j)), (0, .ref w), (1, .int (nI q))] → W p l e ({ frames := 6, cells := 0, slots := 0, locals := 130 } : Room) s m args below meth c0 H locs 0 0 (MQ below (va_Qi (fun (r : Int32) (τ : hs_St) => (0 : Int32) = r ∧ σ = τ) (fun τ t => hs_B D d L τ A t) A) args s 0 0 A) (F0 m 79 ls [])) : ∀ (kk k : Nat), k + kk = 5 → ∀ (i : Int32) (H : Heap) (locs : List Loc), bh_I σ j k i → va_at D vwCl (w, .inr (cWx, [.ref (L 0 0), .ref (L2 0 0)])) H → hs_W D d L σ A H → va_S A s.heap H locs → ∀ ls : Array Slot, lv_has ls 5 [(4, .int (nI k)), (3, .int i), (2, .int (nI j)), (0, .ref w), (1, .int (nI q))] → W p l e ({ frames := 6, cells := 0, slots := 0, locals := 130 } : Room) s m args below meth c0 H locs 0 0 (MQ below (va_Qi (fun (r : Int32) (τ : hs_St) => (0 : Int32) = r ∧ σ = τ) (fun τ t => hs_B D d L τ A t) A) args s 0 0 A) (F0 m 31 ls []) := by
  intro kk
  induction kk with
  | zero =>
    intro k hk i H locs hi hV hW hS ls hl
    have hkN : k = 5 := by omega
    refine lv_iload hx hb dL_isBehind_31 (lv_at hl 0 rfl) ?_
    refine lv_aload_n hx hb dL_isBehind_33 rfl (lv_at hl 3 rfl) ?_
    refine lv_iconst (v := 2) hx hb dL_isBehind_34 (by decide) ?_
    refine bh_ask (v := sp_many σ 4 5 2) (As := [.int 2]) ⟨hx, hb, hml, hown, hts⟩ (kX4_many_2 l D d L σ A w L2 hwA 4 5 3 hok) (cwV 1 hts gL_isBehind_X4_many rfl rfl rfl (by decide +kernel) ⟨Nat.le_of_ble_eq_true rfl, Nat.le_of_ble_eq_true rfl⟩) hK hX hwA hV hW hS rfl hl.1 (Nat.le_of_ble_eq_true rfl) dL_isBehind_35 ⟨Nat.le_of_ble_eq_true rfl, Nat.le_of_ble_eq_true rfl⟩ rfl (fun H locs hV hW hS => ?_)
    rw [show sp_many σ 4 5 2 = nI 5 from hok.2.2.2.2.1]
    refine lv_icmp_ge (tgt := 79) hx hb dL_isBehind_38 (by decide) (fun c_38 => ?_) (fun c_38 => ?_)
    · subst hkN
      exact kx _ _ _ hi hV hW hS ls (lv_sub hl [0, 1, 2, 3, 4] rfl)
    · exact absurd (by rw [hkN]; exact nI_le (a := 5) (b := 5) (Nat.le_refl _) (by decide)) c_38
  | succ kk ih =>
    intro k hk i H locs hi hV hW hS ls hl
    have hkN : k < 5 := by omega
    refine lv_iload hx hb dL_isBehind_31 (lv_at hl 0 rfl) ?_
    refine lv_aload_n hx hb dL_isBehind_33 rfl (lv_at hl 3 rfl) ?_
    refine lv_iconst (v := 2) hx hb dL_isBehind_34 (by decide) ?_
    refine bh_ask (v := sp_many σ 4 5 2) (As := [.int 2]) ⟨hx, hb, hml, hown, hts⟩ (kX4_many_2 l D d L σ A w L2 hwA 4 5 3 hok) (cwV 1 hts gL_isBehind_X4_many rfl rfl rfl (by decide +kernel) ⟨Nat.le_of_ble_eq_true rfl, Nat.le_of_ble_eq_true rfl⟩) hK hX hwA hV hW hS rfl hl.1 (Nat.le_of_ble_eq_true rfl) dL_isBehind_35 ⟨Nat.le_of_ble_eq_true rfl, Nat.le_of_ble_eq_true rfl⟩ rfl (fun H locs hV hW hS => ?_)
    rw [show sp_many σ 4 5 2 = nI 5 from hok.2.2.2.2.1]
    refine lv_icmp_ge (tgt := 79) hx hb dL_isBehind_38 (by decide) (fun c_38 => ?_) (fun c_38 => ?_)
    · exact absurd c_38 (nI_ge (b := 5) hkN (by decide))
    · refine lv_iload_n hx hb dL_isBehind_41 rfl (lv_at hl 1 rfl) ?_
      refine lv_aload_n hx hb dL_isBehind_42 rfl (lv_at hl 3 rfl) ?_
      refine lv_iload hx hb dL_isBehind_43 (lv_at hl 0 rfl) ?_
      refine lv_bipush (v := 8) hx hb dL_isBehind_45 (by decide) ?_
      refine bh_ask (v := sp_ofF σ k 8) (As := [.int (nI k), .int 8]) ⟨hx, hb, hml, hown, hts⟩ (kX4_ofFigure_8 l D d L σ A w L2 hwA 4 5 3 hok k (by omega)) (cwV 2 hts gL_isBehind_X4_ofFigure rfl rfl rfl (by decide +kernel) ⟨Nat.le_of_ble_eq_true rfl, Nat.le_of_ble_eq_true rfl⟩) hK hX hwA hV hW hS rfl hl.1 (Nat.le_of_ble_eq_true rfl) dL_isBehind_47 ⟨Nat.le_of_ble_eq_true rfl, Nat.le_of_ble_eq_true rfl⟩ rfl (fun H locs hV hW hS => ?_)
      refine lv_bipush (v := 7) hx hb dL_isBehind_50 (by decide) ?_
      refine lv_icmp_eq (tgt := 66) hx hb dL_isBehind_52 (by decide) (fun c_52 => ?_) (fun c_52 => ?_)
      · refine lv_iconst (v := 1) hx hb dL_isBehind_66 (by decide) ?_
        refine lv_goto (tgt := 71) hx hb dL_isBehind_67 (by decide) ?_
        refine lv_iand hx hb dL_isBehind_71 ?_
        refine lv_istore_n (lv' := [(3, .int (i &&& 1)), (4, .int (nI k)), (2, .int (nI j)), (0, .ref w), (1, .int (nI q))]) hx hb dL_isBehind_72 rfl hl (by decide) rfl (fun ls hl => ?_)
        refine lv_iinc (v := nI (k + 1)) (lv' := [(4, .int (nI (k + 1))), (3, .int (i &&& 1)), (2, .int (nI j)), (0, .ref w), (1, .int (nI q))]) hx hb dL_isBehind_73 hl (k := 1) rfl (nI_succ _).symm (by decide) rfl (fun ls hl => ?_)
        refine lv_goto (tgt := 31) hx hb dL_isBehind_76 (by decide) ?_
        exact ih (k + 1) (by omega) _ _ _ (bh_1 hi (Or.inl c_52)) hV hW hS ls (lv_sub hl [0, 1, 2, 3, 4] rfl)
      · refine lv_aload_n hx hb dL_isBehind_55 rfl (lv_at hl 3 rfl) ?_
        refine lv_iload hx hb dL_isBehind_56 (lv_at hl 0 rfl) ?_
        refine lv_iconst (v := 0) hx hb dL_isBehind_58 (by decide) ?_
        refine bh_ask (v := sp_ofF σ k 0) (As := [.int (nI k), .int 0]) ⟨hx, hb, hml, hown, hts⟩ (kX4_ofFigure_0 l D d L σ A w L2 hwA 4 5 3 hok k (by omega)) (cwV 2 hts gL_isBehind_X4_ofFigure rfl rfl rfl (by decide +kernel) ⟨Nat.le_of_ble_eq_true rfl, Nat.le_of_ble_eq_true rfl⟩) hK hX hwA hV hW hS rfl hl.1 (Nat.le_of_ble_eq_true rfl) dL_isBehind_59 ⟨Nat.le_of_ble_eq_true rfl, Nat.le_of_ble_eq_true rfl⟩ rfl (fun H locs hV hW hS => ?_)
        refine lv_iload_n hx hb dL_isBehind_62 rfl (lv_at hl 2 rfl) ?_
        refine lv_icmp_eq (tgt := 70) hx hb dL_isBehind_63 (by decide) (fun c_63 => ?_) (fun c_63 => ?_)
        · refine lv_iconst (v := 0) hx hb dL_isBehind_70 (by decide) ?_
          refine lv_iand hx hb dL_isBehind_71 ?_
          refine lv_istore_n (lv' := [(3, .int (i &&& 0)), (4, .int (nI k)), (2, .int (nI j)), (0, .ref w), (1, .int (nI q))]) hx hb dL_isBehind_72 rfl hl (by decide) rfl (fun ls hl => ?_)
          refine lv_iinc (v := nI (k + 1)) (lv' := [(4, .int (nI (k + 1))), (3, .int (i &&& 0)), (2, .int (nI j)), (0, .ref w), (1, .int (nI q))]) hx hb dL_isBehind_73 hl (k := 1) rfl (nI_succ _).symm (by decide) rfl (fun ls hl => ?_)
          refine lv_goto (tgt := 31) hx hb dL_isBehind_76 (by decide) ?_
          exact ih (k + 1) (by omega) _ _ _ (bh_0 hi) hV hW hS ls (lv_sub hl [0, 1, 2, 3, 4] rfl)
        · refine lv_iconst (v := 1) hx hb dL_isBehind_66 (by decide) ?_
          refine lv_goto (tgt := 71) hx hb dL_isBehind_67 (by decide) ?_
          refine lv_iand hx hb dL_isBehind_71 ?_
          refine lv_istore_n (lv' := [(3, .int (i &&& 1)), (4, .int (nI k)), (2, .int (nI j)), (0, .ref w), (1, .int (nI q))]) hx hb dL_isBehind_72 rfl hl (by decide) rfl (fun ls hl => ?_)
          refine lv_iinc (v := nI (k + 1)) (lv' := [(4, .int (nI (k + 1))), (3, .int (i &&& 1)), (2, .int (nI j)), (0, .ref w), (1, .int (nI q))]) hx hb dL_isBehind_73 hl (k := 1) rfl (nI_succ _).symm (by decide) rfl (fun ls hl => ?_)
          refine lv_goto (tgt := 31) hx hb dL_isBehind_76 (by decide) ?_
          exact ih (k + 1) (by omega) _ _ _ (bh_1 hi (Or.inr (fun z9 => c_63 (by show nI _ = _; rw [z9])))) hV hW hS ls (lv_sub hl [0, 1, 2, 3, 4] rfl)
theorem bh_lt {a b : Nat} (h : ¬ nI b ≤ nI a) : nI a < nI b := by
  rw [Int32.le_iff_toInt_le] at h
  rw [Int32.lt_iff_toInt_lt]
  omega
set_option maxHeartbeats 4000000 in
set_option maxRecDepth 100000 in
/-- isBehind: the loop at 2 -/
theorem lkL_isBehind {p : Program} (l : Launch) {e : Env} {s : State} {m : MethodId} {args : Array Value} {below : List Frame} {meth : Method} {c0 : Code} (D : va_G) (d : hs_Dm) (L : hs_Lo) (σ : hs_St) (A : Nat → Prop) (w : Nat) (L2 : hs_Lo) (hwA : ¬ A w) (hok : hs_ok 4 5 3 σ) (q : Nat) (hq : q < 4) (hno : ∀ p, p < 4 → bn_el σ 5 p → ¬ bn_ah σ p q) (hx : p.tables.exec = Jvm.exec) (hb : c0.code = cL_isBehind) (hr : meth.sig.returnType = (some .boolean)) (hts : ∀ w ∈ wsL_isBehind, w.before args s = true) (hown : s.vm.findClass RL = some m.cls) (hlocks : meth.locks = false) (hml : c0.maxLocals = 5) (hK : va_K D vwCl (hs_ty d) s) (hX : hx_E d.2.2.2.2 A s) : ∀ (kk j : Nat), j + kk = 4 → ∀ (H : Heap) (locs : List Loc), va_at D vwCl (w, .inr (cWx, [.ref (L 0 0), .ref (L2 0 0)])) H → hs_W D d L σ A H → va_S A s.heap H locs → ∀ ls : Array Slot, lv_has ls 5 [(2, .int (nI j)), (0, .ref w), (1, .int (nI q))] → W p l e ({ frames := 6, cells := 0, slots := 0, locals := 130 } : Room) s m args below meth c0 H locs 0 0 (MQ below (va_Qi (fun (r : Int32) (τ : hs_St) => (0 : Int32) = r ∧ σ = τ) (fun τ t => hs_B D d L τ A t) A) args s 0 0 A) (F0 m 2 ls []) := by
  intro kk
  induction kk with
  | zero =>
    intro j hj H locs hV hW hS ls hl
    have hjN : j = 4 := by omega
    refine lv_iload_n hx hb dL_isBehind_2 rfl (lv_at hl 0 rfl) ?_
    refine lv_aload_n hx hb dL_isBehind_3 rfl (lv_at hl 1 rfl) ?_
    refine lv_iconst (v := 1) hx hb dL_isBehind_4 (by decide) ?_
    refine bh_ask (v := sp_many σ 4 5 1) (As := [.int 1]) ⟨hx, hb, hml, hown, hts⟩ (kX4_many_1 l D d L σ A w L2 hwA 4 5 3 hok) (cwV 1 hts gL_isBehind_X4_many rfl rfl rfl (by decide +kernel) ⟨Nat.le_of_ble_eq_true rfl, Nat.le_of_ble_eq_true rfl⟩) hK hX hwA hV hW hS rfl hl.1 (Nat.le_of_ble_eq_true rfl) dL_isBehind_5 ⟨Nat.le_of_ble_eq_true rfl, Nat.le_of_ble_eq_true rfl⟩ rfl (fun H locs hV hW hS => ?_)
    rw [show sp_many σ 4 5 1 = nI 4 from hok.2.2.2.1]
    refine lv_icmp_ge (tgt := 159) hx hb dL_isBehind_8 (by decide) (fun c_8 => ?_) (fun c_8 => ?_)
    · refine lv_iconst (v := 0) hx hb dL_isBehind_159 (by decide) ?_
      exact W.zret (v := 0) (ty := .boolean) hx hb hr rfl (fun t ht hW9 => ⟨⟨0, σ, rfl, ⟨rfl, rfl⟩, ⟨by rw [ht]; exact hW, va_K.moved hW9.alike hK⟩⟩, hS.F ht⟩) hS.2.2 dL_isBehind_160
    · exact absurd (by rw [hjN]; exact nI_le (a := 4) (b := 4) (Nat.le_refl _) (by decide)) c_8
  | succ kk ih =>
    intro j hj H locs hV hW hS ls hl
    have hjN : j < 4 := by omega
    refine lv_iload_n hx hb dL_isBehind_2 rfl (lv_at hl 0 rfl) ?_
    refine lv_aload_n hx hb dL_isBehind_3 rfl (lv_at hl 1 rfl) ?_
    refine lv_iconst (v := 1) hx hb dL_isBehind_4 (by decide) ?_
    refine bh_ask (v := sp_many σ 4 5 1) (As := [.int 1]) ⟨hx, hb, hml, hown, hts⟩ (kX4_many_1 l D d L σ A w L2 hwA 4 5 3 hok) (cwV 1 hts gL_isBehind_X4_many rfl rfl rfl (by decide +kernel) ⟨Nat.le_of_ble_eq_true rfl, Nat.le_of_ble_eq_true rfl⟩) hK hX hwA hV hW hS rfl hl.1 (Nat.le_of_ble_eq_true rfl) dL_isBehind_5 ⟨Nat.le_of_ble_eq_true rfl, Nat.le_of_ble_eq_true rfl⟩ rfl (fun H locs hV hW hS => ?_)
    rw [show sp_many σ 4 5 1 = nI 4 from hok.2.2.2.1]
    refine lv_icmp_ge (tgt := 159) hx hb dL_isBehind_8 (by decide) (fun c_8 => ?_) (fun c_8 => ?_)
    · exact absurd c_8 (nI_ge (b := 4) hjN (by decide))
    · refine lv_aload_n hx hb dL_isBehind_11 rfl (lv_at hl 1 rfl) ?_
      refine lv_iload_n hx hb dL_isBehind_12 rfl (lv_at hl 0 rfl) ?_
      refine lv_bipush (v := 6) hx hb dL_isBehind_13 (by decide) ?_
      refine bh_ask (v := sp_ofP σ 5 j 6) (As := [.int (nI j), .int 6]) ⟨hx, hb, hml, hown, hts⟩ (kX4_ofPerson_6 l D d L σ A w L2 hwA 4 5 3 hok j (by omega)) (cwV 2 hts gL_isBehind_X4_ofPerson rfl rfl rfl (by decide +kernel) ⟨Nat.le_of_ble_eq_true rfl, Nat.le_of_ble_eq_true rfl⟩) hK hX hwA hV hW hS rfl hl.1 (Nat.le_of_ble_eq_true rfl) dL_isBehind_15 ⟨Nat.le_of_ble_eq_true rfl, Nat.le_of_ble_eq_true rfl⟩ rfl (fun H locs hV hW hS => ?_)
      refine lv_iconst (v := 1) hx hb dL_isBehind_18 (by decide) ?_
      refine lv_icmp_ne (tgt := 26) hx hb dL_isBehind_19 (by decide) (fun c_19 => ?_) (fun c_19 => ?_)
      · refine lv_iconst (v := 0) hx hb dL_isBehind_26 (by decide) ?_
        refine lv_istore_n (lv' := [(3, .int 0), (2, .int (nI j)), (0, .ref w), (1, .int (nI q))]) hx hb dL_isBehind_27 rfl hl (by decide) rfl (fun ls hl => ?_)
        refine lv_iconst (v := 0) hx hb dL_isBehind_28 (by decide) ?_
        refine lv_istore (lv' := [(4, .int 0), (3, .int 0), (2, .int (nI j)), (0, .ref w), (1, .int (nI q))]) hx hb dL_isBehind_29 hl (by decide) rfl (fun ls hl => ?_)
        refine lkL_isBehind_in l D d L σ A w L2 hwA hok q hq j hjN hx hb hr hts hown hlocks hml hK hX (fun i9 H locs hi9 hV hW hS ls hl => ?_) 5 0 (by omega) _ _ _ (Or.inl rfl) hV hW hS ls (lv_sub hl [0, 1, 2, 3, 4] rfl)
        refine lv_aload_n hx hb dL_isBehind_79 rfl (lv_at hl 3 rfl) ?_
        refine lv_iload_n hx hb dL_isBehind_80 rfl (lv_at hl 2 rfl) ?_
        refine lv_iconst (v := 0) hx hb dL_isBehind_81 (by decide) ?_
        refine lv_bipush (v := 6) hx hb dL_isBehind_82 (by decide) ?_
        refine bh_ask (v := sp_fame σ j 0 6) (As := [.int (nI j), .int 0, .int 6]) ⟨hx, hb, hml, hown, hts⟩ (kX4_wouldFame l D d L σ A w L2 hwA 4 5 3 hok j (by omega) 0 (by omega) 6 (by omega)) (cwV 3 hts gL_isBehind_X4_wouldFame rfl rfl rfl (by decide +kernel) ⟨Nat.le_of_ble_eq_true rfl, Nat.le_of_ble_eq_true rfl⟩) hK hX hwA hV hW hS rfl hl.1 (Nat.le_of_ble_eq_true rfl) dL_isBehind_84 ⟨Nat.le_of_ble_eq_true rfl, Nat.le_of_ble_eq_true rfl⟩ rfl (fun H locs hV hW hS => ?_)
        refine lv_aload_n hx hb dL_isBehind_87 rfl (lv_at hl 3 rfl) ?_
        refine lv_iload_n hx hb dL_isBehind_88 rfl (lv_at hl 4 rfl) ?_
        refine lv_iconst (v := 0) hx hb dL_isBehind_89 (by decide) ?_
        refine lv_bipush (v := 6) hx hb dL_isBehind_90 (by decide) ?_
        refine bh_ask (v := sp_fame σ q 0 6) (As := [.int (nI q), .int 0, .int 6]) ⟨hx, hb, hml, hown, hts⟩ (kX4_wouldFame l D d L σ A w L2 hwA 4 5 3 hok q (by omega) 0 (by omega) 6 (by omega)) (cwV 3 hts gL_isBehind_X4_wouldFame rfl rfl rfl (by decide +kernel) ⟨Nat.le_of_ble_eq_true rfl, Nat.le_of_ble_eq_true rfl⟩) hK hX hwA hV hW hS rfl hl.1 (Nat.le_of_ble_eq_true rfl) dL_isBehind_92 ⟨Nat.le_of_ble_eq_true rfl, Nat.le_of_ble_eq_true rfl⟩ rfl (fun H locs hV hW hS => ?_)
        refine lv_isub hx hb dL_isBehind_95 ?_
        refine lv_istore (lv' := [(4, .int ((sp_fame σ j 0 6) - (sp_fame σ q 0 6))), (3, .int i9), (2, .int (nI j)), (0, .ref w), (1, .int (nI q))]) hx hb dL_isBehind_96 hl (by decide) rfl (fun ls hl => ?_)
        refine lv_iload_n hx hb dL_isBehind_98 rfl (lv_at hl 1 rfl) ?_
        refine lv_if_eq (tgt := 153) hx hb dL_isBehind_99 (by decide) (fun c_99 => ?_) (fun c_99 => ?_)
        · refine lv_iinc (v := nI (j + 1)) (lv' := [(2, .int (nI (j + 1))), (4, .int ((sp_fame σ j 0 6) - (sp_fame σ q 0 6))), (3, .int i9), (0, .ref w), (1, .int (nI q))]) hx hb dL_isBehind_153 hl (k := 2) rfl (nI_succ _).symm (by decide) rfl (fun ls hl => ?_)
          refine lv_goto (tgt := 2) hx hb dL_isBehind_156 (by decide) ?_
          exact ih (j + 1) (by omega) _ _ hV hW hS ls (lv_sub hl [0, 3, 4] rfl)
        · refine lv_iload hx hb dL_isBehind_102 (lv_at hl 0 rfl) ?_
          refine lv_if_gt (tgt := 151) hx hb dL_isBehind_104 (by decide) (fun c_104 => ?_) (fun c_104 => ?_)
          · exact absurd (Or.inl (bn_pos (bn_fame σ j) (bn_fame σ q) c_104)) (hno j hjN (bh_el hi9 c_99))
          · refine lv_iload hx hb dL_isBehind_107 (lv_at hl 0 rfl) ?_
            refine lv_if_ne (tgt := 153) hx hb dL_isBehind_109 (by decide) (fun c_109 => ?_) (fun c_109 => ?_)
            · refine lv_iinc (v := nI (j + 1)) (lv' := [(2, .int (nI (j + 1))), (4, .int ((sp_fame σ j 0 6) - (sp_fame σ q 0 6))), (3, .int i9), (0, .ref w), (1, .int (nI q))]) hx hb dL_isBehind_153 hl (k := 2) rfl (nI_succ _).symm (by decide) rfl (fun ls hl => ?_)
              refine lv_goto (tgt := 2) hx hb dL_isBehind_156 (by decide) ?_
              exact ih (j + 1) (by omega) _ _ hV hW hS ls (lv_sub hl [0, 3, 4] rfl)
            · refine lv_aload_n hx hb dL_isBehind_112 rfl (lv_at hl 3 rfl) ?_
              refine lv_iload_n hx hb dL_isBehind_113 rfl (lv_at hl 2 rfl) ?_
              refine lv_bipush (v := 8) hx hb dL_isBehind_114 (by decide) ?_
              refine bh_ask (v := sp_ofP σ 5 j 8) (As := [.int (nI j), .int 8]) ⟨hx, hb, hml, hown, hts⟩ (kX4_ofPerson_8 l D d L σ A w L2 hwA 4 5 3 hok j (by omega)) (cwV 2 hts gL_isBehind_X4_ofPerson rfl rfl rfl (by decide +kernel) ⟨Nat.le_of_ble_eq_true rfl, Nat.le_of_ble_eq_true rfl⟩) hK hX hwA hV hW hS rfl hl.1 (Nat.le_of_ble_eq_true rfl) dL_isBehind_116 ⟨Nat.le_of_ble_eq_true rfl, Nat.le_of_ble_eq_true rfl⟩ rfl (fun H locs hV hW hS => ?_)
              refine lv_aload_n hx hb dL_isBehind_119 rfl (lv_at hl 3 rfl) ?_
              refine lv_iload_n hx hb dL_isBehind_120 rfl (lv_at hl 4 rfl) ?_
              refine lv_bipush (v := 8) hx hb dL_isBehind_121 (by decide) ?_
              refine bh_ask (v := sp_ofP σ 5 q 8) (As := [.int (nI q), .int 8]) ⟨hx, hb, hml, hown, hts⟩ (kX4_ofPerson_8 l D d L σ A w L2 hwA 4 5 3 hok q (by omega)) (cwV 2 hts gL_isBehind_X4_ofPerson rfl rfl rfl (by decide +kernel) ⟨Nat.le_of_ble_eq_true rfl, Nat.le_of_ble_eq_true rfl⟩) hK hX hwA hV hW hS rfl hl.1 (Nat.le_of_ble_eq_true rfl) dL_isBehind_123 ⟨Nat.le_of_ble_eq_true rfl, Nat.le_of_ble_eq_true rfl⟩ rfl (fun H locs hV hW hS => ?_)
              refine lv_icmp_lt (tgt := 151) hx hb dL_isBehind_126 (by decide) (fun c_126 => ?_) (fun c_126 => ?_)
              · exact absurd (Or.inr ⟨bn_zero c_109, Or.inl c_126⟩) (hno j hjN (bh_el hi9 c_99))
              · refine lv_aload_n hx hb dL_isBehind_129 rfl (lv_at hl 3 rfl) ?_
                refine lv_iload_n hx hb dL_isBehind_130 rfl (lv_at hl 2 rfl) ?_
                refine lv_bipush (v := 8) hx hb dL_isBehind_131 (by decide) ?_
                refine bh_ask (v := sp_ofP σ 5 j 8) (As := [.int (nI j), .int 8]) ⟨hx, hb, hml, hown, hts⟩ (kX4_ofPerson_8 l D d L σ A w L2 hwA 4 5 3 hok j (by omega)) (cwV 2 hts gL_isBehind_X4_ofPerson rfl rfl rfl (by decide +kernel) ⟨Nat.le_of_ble_eq_true rfl, Nat.le_of_ble_eq_true rfl⟩) hK hX hwA hV hW hS rfl hl.1 (Nat.le_of_ble_eq_true rfl) dL_isBehind_133 ⟨Nat.le_of_ble_eq_true rfl, Nat.le_of_ble_eq_true rfl⟩ rfl (fun H locs hV hW hS => ?_)
                refine lv_aload_n hx hb dL_isBehind_136 rfl (lv_at hl 3 rfl) ?_
                refine lv_iload_n hx hb dL_isBehind_137 rfl (lv_at hl 4 rfl) ?_
                refine lv_bipush (v := 8) hx hb dL_isBehind_138 (by decide) ?_
                refine bh_ask (v := sp_ofP σ 5 q 8) (As := [.int (nI q), .int 8]) ⟨hx, hb, hml, hown, hts⟩ (kX4_ofPerson_8 l D d L σ A w L2 hwA 4 5 3 hok q (by omega)) (cwV 2 hts gL_isBehind_X4_ofPerson rfl rfl rfl (by decide +kernel) ⟨Nat.le_of_ble_eq_true rfl, Nat.le_of_ble_eq_true rfl⟩) hK hX hwA hV hW hS rfl hl.1 (Nat.le_of_ble_eq_true rfl) dL_isBehind_140 ⟨Nat.le_of_ble_eq_true rfl, Nat.le_of_ble_eq_true rfl⟩ rfl (fun H locs hV hW hS => ?_)
                refine lv_icmp_ne (tgt := 153) hx hb dL_isBehind_143 (by decide) (fun c_143 => ?_) (fun c_143 => ?_)
                · refine lv_iinc (v := nI (j + 1)) (lv' := [(2, .int (nI (j + 1))), (4, .int ((sp_fame σ j 0 6) - (sp_fame σ q 0 6))), (3, .int i9), (0, .ref w), (1, .int (nI q))]) hx hb dL_isBehind_153 hl (k := 2) rfl (nI_succ _).symm (by decide) rfl (fun ls hl => ?_)
                  refine lv_goto (tgt := 2) hx hb dL_isBehind_156 (by decide) ?_
                  exact ih (j + 1) (by omega) _ _ hV hW hS ls (lv_sub hl [0, 3, 4] rfl)
                · refine lv_iload_n hx hb dL_isBehind_146 rfl (lv_at hl 2 rfl) ?_
                  refine lv_iload_n hx hb dL_isBehind_147 rfl (lv_at hl 4 rfl) ?_
                  refine lv_icmp_ge (tgt := 153) hx hb dL_isBehind_148 (by decide) (fun c_148 => ?_) (fun c_148 => ?_)
                  · refine lv_iinc (v := nI (j + 1)) (lv' := [(2, .int (nI (j + 1))), (4, .int ((sp_fame σ j 0 6) - (sp_fame σ q 0 6))), (3, .int i9), (0, .ref w), (1, .int (nI q))]) hx hb dL_isBehind_153 hl (k := 2) rfl (nI_succ _).symm (by decide) rfl (fun ls hl => ?_)
                    refine lv_goto (tgt := 2) hx hb dL_isBehind_156 (by decide) ?_
                    exact ih (j + 1) (by omega) _ _ hV hW hS ls (lv_sub hl [0, 3, 4] rfl)
                  · exact absurd (Or.inr ⟨bn_zero c_109, Or.inr ⟨c_143, nI_lt' (by omega) (by omega) (bh_lt c_148)⟩⟩) (hno j hjN (bh_el hi9 c_99))
      · refine lv_iconst (v := 1) hx hb dL_isBehind_22 (by decide) ?_
        refine lv_goto (tgt := 27) hx hb dL_isBehind_23 (by decide) ?_
        refine lv_istore_n (lv' := [(3, .int 1), (2, .int (nI j)), (0, .ref w), (1, .int (nI q))]) hx hb dL_isBehind_27 rfl hl (by decide) rfl (fun ls hl => ?_)
        refine lv_iconst (v := 0) hx hb dL_isBehind_28 (by decide) ?_
        refine lv_istore (lv' := [(4, .int 0), (3, .int 1), (2, .int (nI j)), (0, .ref w), (1, .int (nI q))]) hx hb dL_isBehind_29 hl (by decide) rfl (fun ls hl => ?_)
        refine lkL_isBehind_in l D d L σ A w L2 hwA hok q hq j hjN hx hb hr hts hown hlocks hml hK hX (fun i9 H locs hi9 hV hW hS ls hl => ?_) 5 0 (by omega) _ _ _ (bh_start c_19) hV hW hS ls (lv_sub hl [0, 1, 2, 3, 4] rfl)
        refine lv_aload_n hx hb dL_isBehind_79 rfl (lv_at hl 3 rfl) ?_
        refine lv_iload_n hx hb dL_isBehind_80 rfl (lv_at hl 2 rfl) ?_
        refine lv_iconst (v := 0) hx hb dL_isBehind_81 (by decide) ?_
        refine lv_bipush (v := 6) hx hb dL_isBehind_82 (by decide) ?_
        refine bh_ask (v := sp_fame σ j 0 6) (As := [.int (nI j), .int 0, .int 6]) ⟨hx, hb, hml, hown, hts⟩ (kX4_wouldFame l D d L σ A w L2 hwA 4 5 3 hok j (by omega) 0 (by omega) 6 (by omega)) (cwV 3 hts gL_isBehind_X4_wouldFame rfl rfl rfl (by decide +kernel) ⟨Nat.le_of_ble_eq_true rfl, Nat.le_of_ble_eq_true rfl⟩) hK hX hwA hV hW hS rfl hl.1 (Nat.le_of_ble_eq_true rfl) dL_isBehind_84 ⟨Nat.le_of_ble_eq_true rfl, Nat.le_of_ble_eq_true rfl⟩ rfl (fun H locs hV hW hS => ?_)
        refine lv_aload_n hx hb dL_isBehind_87 rfl (lv_at hl 3 rfl) ?_
        refine lv_iload_n hx hb dL_isBehind_88 rfl (lv_at hl 4 rfl) ?_
        refine lv_iconst (v := 0) hx hb dL_isBehind_89 (by decide) ?_
        refine lv_bipush (v := 6) hx hb dL_isBehind_90 (by decide) ?_
        refine bh_ask (v := sp_fame σ q 0 6) (As := [.int (nI q), .int 0, .int 6]) ⟨hx, hb, hml, hown, hts⟩ (kX4_wouldFame l D d L σ A w L2 hwA 4 5 3 hok q (by omega) 0 (by omega) 6 (by omega)) (cwV 3 hts gL_isBehind_X4_wouldFame rfl rfl rfl (by decide +kernel) ⟨Nat.le_of_ble_eq_true rfl, Nat.le_of_ble_eq_true rfl⟩) hK hX hwA hV hW hS rfl hl.1 (Nat.le_of_ble_eq_true rfl) dL_isBehind_92 ⟨Nat.le_of_ble_eq_true rfl, Nat.le_of_ble_eq_true rfl⟩ rfl (fun H locs hV hW hS => ?_)
        refine lv_isub hx hb dL_isBehind_95 ?_
        refine lv_istore (lv' := [(4, .int ((sp_fame σ j 0 6) - (sp_fame σ q 0 6))), (3, .int i9), (2, .int (nI j)), (0, .ref w), (1, .int (nI q))]) hx hb dL_isBehind_96 hl (by decide) rfl (fun ls hl => ?_)
        refine lv_iload_n hx hb dL_isBehind_98 rfl (lv_at hl 1 rfl) ?_
        refine lv_if_eq (tgt := 153) hx hb dL_isBehind_99 (by decide) (fun c_99 => ?_) (fun c_99 => ?_)
        · refine lv_iinc (v := nI (j + 1)) (lv' := [(2, .int (nI (j + 1))), (4, .int ((sp_fame σ j 0 6) - (sp_fame σ q 0 6))), (3, .int i9), (0, .ref w), (1, .int (nI q))]) hx hb dL_isBehind_153 hl (k := 2) rfl (nI_succ _).symm (by decide) rfl (fun ls hl => ?_)
          refine lv_goto (tgt := 2) hx hb dL_isBehind_156 (by decide) ?_
          exact ih (j + 1) (by omega) _ _ hV hW hS ls (lv_sub hl [0, 3, 4] rfl)
        · refine lv_iload hx hb dL_isBehind_102 (lv_at hl 0 rfl) ?_
          refine lv_if_gt (tgt := 151) hx hb dL_isBehind_104 (by decide) (fun c_104 => ?_) (fun c_104 => ?_)
          · exact absurd (Or.inl (bn_pos (bn_fame σ j) (bn_fame σ q) c_104)) (hno j hjN (bh_el hi9 c_99))
          · refine lv_iload hx hb dL_isBehind_107 (lv_at hl 0 rfl) ?_
            refine lv_if_ne (tgt := 153) hx hb dL_isBehind_109 (by decide) (fun c_109 => ?_) (fun c_109 => ?_)
            · refine lv_iinc (v := nI (j + 1)) (lv' := [(2, .int (nI (j + 1))), (4, .int ((sp_fame σ j 0 6) - (sp_fame σ q 0 6))), (3, .int i9), (0, .ref w), (1, .int (nI q))]) hx hb dL_isBehind_153 hl (k := 2) rfl (nI_succ _).symm (by decide) rfl (fun ls hl => ?_)
              refine lv_goto (tgt := 2) hx hb dL_isBehind_156 (by decide) ?_
              exact ih (j + 1) (by omega) _ _ hV hW hS ls (lv_sub hl [0, 3, 4] rfl)
            · refine lv_aload_n hx hb dL_isBehind_112 rfl (lv_at hl 3 rfl) ?_
              refine lv_iload_n hx hb dL_isBehind_113 rfl (lv_at hl 2 rfl) ?_
              refine lv_bipush (v := 8) hx hb dL_isBehind_114 (by decide) ?_
              refine bh_ask (v := sp_ofP σ 5 j 8) (As := [.int (nI j), .int 8]) ⟨hx, hb, hml, hown, hts⟩ (kX4_ofPerson_8 l D d L σ A w L2 hwA 4 5 3 hok j (by omega)) (cwV 2 hts gL_isBehind_X4_ofPerson rfl rfl rfl (by decide +kernel) ⟨Nat.le_of_ble_eq_true rfl, Nat.le_of_ble_eq_true rfl⟩) hK hX hwA hV hW hS rfl hl.1 (Nat.le_of_ble_eq_true rfl) dL_isBehind_116 ⟨Nat.le_of_ble_eq_true rfl, Nat.le_of_ble_eq_true rfl⟩ rfl (fun H locs hV hW hS => ?_)
              refine lv_aload_n hx hb dL_isBehind_119 rfl (lv_at hl 3 rfl) ?_
              refine lv_iload_n hx hb dL_isBehind_120 rfl (lv_at hl 4 rfl) ?_
              refine lv_bipush (v := 8) hx hb dL_isBehind_121 (by decide) ?_
              refine bh_ask (v := sp_ofP σ 5 q 8) (As := [.int (nI q), .int 8]) ⟨hx, hb, hml, hown, hts⟩ (kX4_ofPerson_8 l D d L σ A w L2 hwA 4 5 3 hok q (by omega)) (cwV 2 hts gL_isBehind_X4_ofPerson rfl rfl rfl (by decide +kernel) ⟨Nat.le_of_ble_eq_true rfl, Nat.le_of_ble_eq_true rfl⟩) hK hX hwA hV hW hS rfl hl.1 (Nat.le_of_ble_eq_true rfl) dL_isBehind_123 ⟨Nat.le_of_ble_eq_true rfl, Nat.le_of_ble_eq_true rfl⟩ rfl (fun H locs hV hW hS => ?_)
              refine lv_icmp_lt (tgt := 151) hx hb dL_isBehind_126 (by decide) (fun c_126 => ?_) (fun c_126 => ?_)
              · exact absurd (Or.inr ⟨bn_zero c_109, Or.inl c_126⟩) (hno j hjN (bh_el hi9 c_99))
              · refine lv_aload_n hx hb dL_isBehind_129 rfl (lv_at hl 3 rfl) ?_
                refine lv_iload_n hx hb dL_isBehind_130 rfl (lv_at hl 2 rfl) ?_
                refine lv_bipush (v := 8) hx hb dL_isBehind_131 (by decide) ?_
                refine bh_ask (v := sp_ofP σ 5 j 8) (As := [.int (nI j), .int 8]) ⟨hx, hb, hml, hown, hts⟩ (kX4_ofPerson_8 l D d L σ A w L2 hwA 4 5 3 hok j (by omega)) (cwV 2 hts gL_isBehind_X4_ofPerson rfl rfl rfl (by decide +kernel) ⟨Nat.le_of_ble_eq_true rfl, Nat.le_of_ble_eq_true rfl⟩) hK hX hwA hV hW hS rfl hl.1 (Nat.le_of_ble_eq_true rfl) dL_isBehind_133 ⟨Nat.le_of_ble_eq_true rfl, Nat.le_of_ble_eq_true rfl⟩ rfl (fun H locs hV hW hS => ?_)
                refine lv_aload_n hx hb dL_isBehind_136 rfl (lv_at hl 3 rfl) ?_
                refine lv_iload_n hx hb dL_isBehind_137 rfl (lv_at hl 4 rfl) ?_
                refine lv_bipush (v := 8) hx hb dL_isBehind_138 (by decide) ?_
                refine bh_ask (v := sp_ofP σ 5 q 8) (As := [.int (nI q), .int 8]) ⟨hx, hb, hml, hown, hts⟩ (kX4_ofPerson_8 l D d L σ A w L2 hwA 4 5 3 hok q (by omega)) (cwV 2 hts gL_isBehind_X4_ofPerson rfl rfl rfl (by decide +kernel) ⟨Nat.le_of_ble_eq_true rfl, Nat.le_of_ble_eq_true rfl⟩) hK hX hwA hV hW hS rfl hl.1 (Nat.le_of_ble_eq_true rfl) dL_isBehind_140 ⟨Nat.le_of_ble_eq_true rfl, Nat.le_of_ble_eq_true rfl⟩ rfl (fun H locs hV hW hS => ?_)
                refine lv_icmp_ne (tgt := 153) hx hb dL_isBehind_143 (by decide) (fun c_143 => ?_) (fun c_143 => ?_)
                · refine lv_iinc (v := nI (j + 1)) (lv' := [(2, .int (nI (j + 1))), (4, .int ((sp_fame σ j 0 6) - (sp_fame σ q 0 6))), (3, .int i9), (0, .ref w), (1, .int (nI q))]) hx hb dL_isBehind_153 hl (k := 2) rfl (nI_succ _).symm (by decide) rfl (fun ls hl => ?_)
                  refine lv_goto (tgt := 2) hx hb dL_isBehind_156 (by decide) ?_
                  exact ih (j + 1) (by omega) _ _ hV hW hS ls (lv_sub hl [0, 3, 4] rfl)
                · refine lv_iload_n hx hb dL_isBehind_146 rfl (lv_at hl 2 rfl) ?_
                  refine lv_iload_n hx hb dL_isBehind_147 rfl (lv_at hl 4 rfl) ?_
                  refine lv_icmp_ge (tgt := 153) hx hb dL_isBehind_148 (by decide) (fun c_148 => ?_) (fun c_148 => ?_)
                  · refine lv_iinc (v := nI (j + 1)) (lv' := [(2, .int (nI (j + 1))), (4, .int ((sp_fame σ j 0 6) - (sp_fame σ q 0 6))), (3, .int i9), (0, .ref w), (1, .int (nI q))]) hx hb dL_isBehind_153 hl (k := 2) rfl (nI_succ _).symm (by decide) rfl (fun ls hl => ?_)
                    refine lv_goto (tgt := 2) hx hb dL_isBehind_156 (by decide) ?_
                    exact ih (j + 1) (by omega) _ _ hV hW hS ls (lv_sub hl [0, 3, 4] rfl)
                  · exact absurd (Or.inr ⟨bn_zero c_109, Or.inr ⟨c_143, nI_lt' (by omega) (by omega) (bh_lt c_148)⟩⟩) (hno j hjN (bh_el hi9 c_99))
set_option maxHeartbeats 4000000 in
set_option maxRecDepth 100000 in
/-- isBehind -/
theorem kL_isBehind (l : Launch) (D : va_G) (d : hs_Dm) (L : hs_Lo) (σ : hs_St) (A : Nat → Prop) (w : Nat) (L2 : hs_Lo) (hwA : ¬ A w) (hok : hs_ok 4 5 3 σ) (q : Nat) (hq : q < 4) (hno : ∀ p, p < 4 → bn_el σ 5 p → ¬ bn_ah σ p q) : wx_Mi l yL_isBehind wsL_isBehind ({ frames := 6, cells := 0, slots := 0, locals := 130 } : Room) D d w L L2 σ A [.ref w, .int (nI q)] (fun r τ => (0 : Int32) = r ∧ σ = τ) := by
  refine Met.ofW (cc := cL_isBehind) (maxL := 5) (ret := (some .boolean)) (by decide) rfl ?_
  intro p e s m args below meth c0 s₁ B hml hv
  obtain ⟨rfl, ⟨⟨hW, hK⟩, hX⟩, hV⟩ := hv
  have hx := B.exec
  have hb := B.bytes
  have hr := B.returns
  have hts := atoms_spec (ws := wsL_isBehind) B.pre
  have hown : s.vm.findClass RL = some m.cls := findClass_of_methodNamed B.named
  have hlocks := B.notSynchronized
  have hS : va_S A s.heap s.heap [] := va_S.rf
  have hl := lv_entry ([.ref w, .int (nI q)]) (n := 5) (Nat.le_of_ble_eq_true rfl)
  rw [lg_entry_eq]
  generalize (lg_sl ([.ref w, .int (nI q)]) ++ List.replicate (5 - (lg_sl ([.ref w, .int (nI q)])).length) Slot.unset).toArray = ls at hl ⊢
  have hl : lv_has ls 5 [(0, .ref w), (1, .int (nI q))] := hl
  refine lv_iconst (v := 0) hx hb dL_isBehind_0 (by decide) ?_
  refine lv_istore_n (lv' := [(2, .int 0), (0, .ref w), (1, .int (nI q))]) hx hb dL_isBehind_1 rfl hl (by decide) rfl (fun ls hl => ?_)
  exact lkL_isBehind l D d L σ A w L2 hwA hok q hq hno hx hb hr hts hown hlocks hml hK hX 4 0 (by omega) _ _ hV hW hS ls (lv_sub hl [0, 1, 2] rfl)
