/-! WAXROW: its calls where all is as it should be -/
abbrev cWx : Nat := 4
theorem wx_one {D : va_G} {w : Nat} {fs : List Value} {A : Nat → Prop} {s : State} {H : Heap} {locs : List Loc} (hV : va_at D vwCl (w, .inr (cWx, fs)) s.heap) (hS : va_S A s.heap H locs) (hwA : ¬ A w) : va_P D vwCl [(w, .inr (cWx, fs))] H := by
  intro n q hq
  cases n with
  | zero => cases hq; exact hV.kept (hS.2.1 w hV.lt hwA)
  | succ n => simp at hq
def wx_C (D : va_G) (d : hs_Dm) (w : Nat) (L L2 : hs_Lo) (σ : hs_St) (A : Nat → Prop) (U : State) : Prop := hx_C D d L σ A U ∧ va_at D vwCl (w, .inr (cWx, [.ref (L 0 0), .ref (L2 0 0)])) U.heap
theorem wx_blind {D : va_G} {d : hs_Dm} {w : Nat} {L L2 : hs_Lo} {σ : hs_St} {A : Nat → Prop} {av : List Value} : FrameBlind (va_Pc av (wx_C D d w L L2 σ A)) := fun a U g mk q => by
  obtain ⟨q0, q1, q2⟩ := q
  exact ⟨q0, (hx_blind (av := av) a U g mk ⟨q0, q1⟩).2, q2⟩
abbrev wx_Mi (l : Launch) (y : MethodName) (ws : List Cond) (rm : Room) (D : va_G) (d : hs_Dm) (w : Nat) (L L2 : hs_Lo) (σ : hs_St) (A : Nat → Prop) (av : List Value) (post : Int32 → hs_St → Prop) : Prop := Met l y ws rm (va_Pc av (wx_C D d w L L2 σ A)) (va_Qi post (fun τ t => hs_B D d L τ A t) A) 0 0 A
theorem sp_ge {x : Int32} {n N : Nat} (h : x = nI n) (M : Int32) (hM : M = nI N) (hn : n < N) (hN : N < 2 ^ 31) : ¬ M ≤ x := by
  rw [h, hM]
  exact nI_ge hn hN
def sp_pass (σ : hs_St) (P F : Nat) (x z : Int32) : Nat → Int32 × hs_St
  | 0 => (0, σ)
  | n + 1 => ((sp_pass σ P F x z n).1 + (sp_day (sp_pass σ P F x z n).2 P F x z).1, (sp_day (sp_pass σ P F x z n).2 P F x z).2)
theorem sp_pass_ok {P F R : Nat} {σ : hs_St} (x z : Int32) (h : hs_ok P F R σ) : ∀ n, hs_ok P F R (sp_pass σ P F x z n).2
  | 0 => h
  | n + 1 => sp_day_ok x z (sp_pass_ok x z h n)
def sp_many (σ : hs_St) (P F k : Nat) : Int32 := match k with
  | 0 => σ 0 0 6
  | 1 => σ 0 0 3
  | 2 => σ 0 0 4
  | 3 => sp_done σ F
  | 4 => sp_figIn σ 0 4 F
  | 5 => sp_figIn σ 6 6 F
  | 6 => sp_figIn σ 7 7 F
  | 7 => σ 0 0 5
  | 8 => σ 0 0 7
  | 9 => σ 0 0 8
  | 10 => sp_due σ P
  | 11 => σ 0 0 10
  | 12 => sp_hands σ F
  | 13 => σ 0 0 9
  | _ => sp_draws σ 0 4 F
def sp_ofP (σ : hs_St) (F q k : Nat) : Int32 := match k with
  | 0 => σ 5 q 0
  | 1 => σ 5 q 1
  | 2 => σ 5 q 2
  | 3 => σ 6 q 0
  | 4 => σ 6 q 1
  | 5 => σ 6 q 2
  | 6 => if σ 4 q 5 = 0 then 0 else 1
  | 7 => σ 4 q 6
  | 8 => sp_doubt σ q
  | 9 => σ 4 q 7
  | _ => sp_shownFrom σ q F 0
def sp_ofF (σ : hs_St) (f k : Nat) : Int32 := match k with
  | 0 => nI (σ 9 f 0).toNatClampNeg
  | 1 => nI (σ 9 f 1).toNatClampNeg
  | 2 => σ 9 f 2
  | 3 => sp_left σ f
  | 4 => σ 9 f 4
  | 5 => σ 9 f 5
  | 6 => σ 9 f 6
  | 7 => sp_likeness σ f
  | 8 => σ 9 f 7
  | 9 => σ 9 f 9
  | 10 => sp_draw σ f
  | _ => σ 9 f 10
def sp_ofR (σ : hs_St) (F r k : Nat) : Int32 := match k with
  | 0 => σ 10 r 0
  | 1 => σ 10 r 1
  | 2 => σ 10 r 1 - sp_figIn σ (nI r) (nI r) F
  | _ => sp_draws σ (nI r) (nI r) F
def sp_pick (b : Int32 × Int32 × Int32) (x y : Int32) (n : Nat) : Int32 × Int32 × Int32 := if b.1 = -1 then (nI n, x, y) else if b.2.1 < x then (nI n, x, y) else if x = b.2.1 then (if b.2.2 ≤ y then b else (nI n, x, y)) else b
def sp_best (σ : hs_St) (F : Nat) : Nat → Int32 × Int32 × Int32
  | 0 => (-1, 0, 0)
  | n + 1 => if σ 4 n 5 = 0 then sp_best σ F n else if sp_hasFrom σ n F 0 = 0 then sp_pick (sp_best σ F n) (sp_fame σ n 0 6) (sp_doubt σ n) n else sp_best σ F n
set_option maxHeartbeats 4000000 in
set_option maxRecDepth 100000 in
/-- checkArgument passes -/
theorem kX4_checkArgument (l : Launch) (D : va_G) (d : hs_Dm) (L : hs_Lo) (σ : hs_St) (A : Nat → Prop) (x y z : Int32) (h0 : ¬ x < y) (h1 : x ≤ z) : hs_Mv l yX4_checkArgument wsX4_checkArgument ({ frames := 0, cells := 0, slots := 0, locals := 0 }) D d L σ A [.int x, .int y, .int z] (fun τ => σ = τ) := by
  refine Met.ofW (cc := cX4_checkArgument) (maxL := 3) (ret := none) (by decide) rfl ?_
  intro p e s m args below meth c s₁ B hml hv
  obtain ⟨rfl, ⟨hW, hK⟩, hE⟩ := hv
  have hx := B.exec
  have hb := B.bytes
  have hr := B.returns
  have hts := atoms_spec (ws := wsX4_checkArgument) B.pre
  have hown : s.vm.findClass RX4 = some m.cls := findClass_of_methodNamed B.named
  have hlocks := B.notSynchronized
  have hS : va_S A s.heap s.heap [] := va_S.rf
  have hW : hs_W D d L σ A s.heap := hW
  have hl := lv_entry ([.int x, .int y, .int z]) (n := 3) (Nat.le_of_ble_eq_true rfl)
  rw [lg_entry_eq]
  generalize (lg_sl ([.int x, .int y, .int z]) ++ List.replicate (3 - (lg_sl ([.int x, .int y, .int z])).length) Slot.unset).toArray = ls at hl ⊢
  have hl : lv_has ls 3 [(0, .int x), (1, .int y), (2, .int z)] := hl
  refine lv_iload_n hx hb dX4_checkArgument_0 rfl (lv_at hl 0 rfl) ?_
  refine lv_iload_n hx hb dX4_checkArgument_1 rfl (lv_at hl 1 rfl) ?_
  refine lv_icmp_lt (tgt := 10) hx hb dX4_checkArgument_2 (by decide) (fun c_2 => ?_) (fun c_2 => ?_)
  · exact absurd c_2 h0
  · refine lv_iload_n hx hb dX4_checkArgument_5 rfl (lv_at hl 0 rfl) ?_
    refine lv_iload_n hx hb dX4_checkArgument_6 rfl (lv_at hl 2 rfl) ?_
    refine lv_icmp_le (tgt := 21) hx hb dX4_checkArgument_7 (by decide) (fun c_7 => ?_) (fun c_7 => ?_)
    · exact W.vret hx hb hr (fun t ht hW9 => ⟨⟨σ, rfl, rfl, ⟨by rw [ht]; exact hW, va_K.moved hW9.alike hK⟩⟩, hS.F ht⟩) hS.2.2 dX4_checkArgument_21
    · exact absurd h1 c_7
set_option maxHeartbeats 4000000 in
set_option maxRecDepth 100000 in
/-- checkState passes -/
theorem kX4_checkState (l : Launch) (D : va_G) (d : hs_Dm) (L : hs_Lo) (σ : hs_St) (A : Nat → Prop) (x : Int32) (h0 : ¬ x = 0) : hs_Mv l yX4_checkState wsX4_checkState ({ frames := 0, cells := 0, slots := 0, locals := 0 }) D d L σ A [.int x] (fun τ => σ = τ) := by
  refine Met.ofW (cc := cX4_checkState) (maxL := 1) (ret := none) (by decide) rfl ?_
  intro p e s m args below meth c s₁ B hml hv
  obtain ⟨rfl, ⟨hW, hK⟩, hE⟩ := hv
  have hx := B.exec
  have hb := B.bytes
  have hr := B.returns
  have hts := atoms_spec (ws := wsX4_checkState) B.pre
  have hown : s.vm.findClass RX4 = some m.cls := findClass_of_methodNamed B.named
  have hlocks := B.notSynchronized
  have hS : va_S A s.heap s.heap [] := va_S.rf
  have hW : hs_W D d L σ A s.heap := hW
  have hl := lv_entry ([.int x]) (n := 1) (Nat.le_of_ble_eq_true rfl)
  rw [lg_entry_eq]
  generalize (lg_sl ([.int x]) ++ List.replicate (1 - (lg_sl ([.int x])).length) Slot.unset).toArray = ls at hl ⊢
  have hl : lv_has ls 1 [(0, .int x)] := hl
  refine lv_iload_n hx hb dX4_checkState_0 rfl (lv_at hl 0 rfl) ?_
  refine lv_if_ne (tgt := 15) hx hb dX4_checkState_1 (by decide) (fun c_1 => ?_) (fun c_1 => ?_)
  · exact W.vret hx hb hr (fun t ht hW9 => ⟨⟨σ, rfl, rfl, ⟨by rw [ht]; exact hW, va_K.moved hW9.alike hK⟩⟩, hS.F ht⟩) hS.2.2 dX4_checkState_15
  · exact absurd c_1 h0
set_option maxHeartbeats 4000000 in
set_option maxRecDepth 100000 in
/-- person -/
theorem kX4_person (l : Launch) (D : va_G) (d : hs_Dm) (L : hs_Lo) (σ : hs_St) (A : Nat → Prop) (w : Nat) (L2 : hs_Lo) (hwA : ¬ A w) (P F R : Nat) (hok : hs_ok P F R σ) (hP9 : P < 10) (x y z : Int32) (hx0 : ¬ x < 0) (hx9 : x ≤ 999) (hy0 : ¬ y < 0) (hy9 : y ≤ 999) (hz0 : ¬ z < 0) (hz9 : z ≤ 999) : wx_Mi l yX4_person wsX4_person ({ frames := 3, cells := 0, slots := 0, locals := 68 }) D d w L L2 σ A [.ref w, .int x, .int y, .int z] (fun r τ => nI P = r ∧ sp_newP σ P x y z = τ) := by
  refine Met.ofW (cc := cX4_person) (maxL := 4) (ret := (some .int)) (by decide) rfl ?_
  intro p e s m args below meth c s₁ B hml hv
  obtain ⟨rfl, ⟨⟨hW, hK⟩, hX⟩, hV⟩ := hv
  have hE := hX.1
  have hx := B.exec
  have hb := B.bytes
  have hr := B.returns
  have hts := atoms_spec (ws := wsX4_person) B.pre
  have hown : s.vm.findClass RX4 = some m.cls := findClass_of_methodNamed B.named
  have hlocks := B.notSynchronized
  have hS : va_S A s.heap s.heap [] := va_S.rf
  have hW : hs_W D d L σ A s.heap := hW
  have hl := lv_entry ([.ref w, .int x, .int y, .int z]) (n := 4) (Nat.le_of_ble_eq_true rfl)
  rw [lg_entry_eq]
  generalize (lg_sl ([.ref w, .int x, .int y, .int z]) ++ List.replicate (4 - (lg_sl ([.ref w, .int x, .int y, .int z])).length) Slot.unset).toArray = ls at hl ⊢
  have hl : lv_has ls 4 [(0, .ref w), (1, .int x), (2, .int y), (3, .int z)] := hl
  have h10 := hok.1
  have h8 := hok.2.1
  have h5 := hok.2.2.1
  have hd_ := hok.hd
  refine lv_iload_n hx hb dX4_person_0 rfl (lv_at hl 1 rfl) ?_
  refine lv_iconst (v := 0) hx hb dX4_person_1 (by decide) ?_
  refine lv_sipush (v := 999) hx hb dX4_person_2 (by decide) ?_
  refine hs_runv (As := [.int x, .int 0, .int 999]) ⟨hx, hb, hml, hown, hts⟩ (kX4_checkArgument l D d L σ A x 0 999 hx0 hx9) (va_cwS 3 hts gX4_person_X4_checkArgument rfl rfl rfl (by decide +kernel) ⟨Nat.le_of_ble_eq_true rfl, Nat.le_of_ble_eq_true rfl⟩) hK hE hW hS rfl hl.1 (Nat.le_of_ble_eq_true rfl) dX4_person_5 ⟨Nat.zero_le _, Nat.zero_le _⟩ rfl (fun τ_ H locs hp hW hS => ?_)
  obtain rfl := hp
  refine lv_iload_n hx hb dX4_person_8 rfl (lv_at hl 2 rfl) ?_
  refine lv_iconst (v := 0) hx hb dX4_person_9 (by decide) ?_
  refine lv_sipush (v := 999) hx hb dX4_person_10 (by decide) ?_
  refine hs_runv (As := [.int y, .int 0, .int 999]) ⟨hx, hb, hml, hown, hts⟩ (kX4_checkArgument l D d L σ A y 0 999 hy0 hy9) (va_cwS 3 hts gX4_person_X4_checkArgument rfl rfl rfl (by decide +kernel) ⟨Nat.le_of_ble_eq_true rfl, Nat.le_of_ble_eq_true rfl⟩) hK hE hW hS rfl hl.1 (Nat.le_of_ble_eq_true rfl) dX4_person_13 ⟨Nat.zero_le _, Nat.zero_le _⟩ rfl (fun τ_ H locs hp hW hS => ?_)
  obtain rfl := hp
  refine lv_iload_n hx hb dX4_person_16 rfl (lv_at hl 3 rfl) ?_
  refine lv_iconst (v := 0) hx hb dX4_person_17 (by decide) ?_
  refine lv_sipush (v := 999) hx hb dX4_person_18 (by decide) ?_
  refine hs_runv (As := [.int z, .int 0, .int 999]) ⟨hx, hb, hml, hown, hts⟩ (kX4_checkArgument l D d L σ A z 0 999 hz0 hz9) (va_cwS 3 hts gX4_person_X4_checkArgument rfl rfl rfl (by decide +kernel) ⟨Nat.le_of_ble_eq_true rfl, Nat.le_of_ble_eq_true rfl⟩) hK hE hW hS rfl hl.1 (Nat.le_of_ble_eq_true rfl) dX4_person_21 ⟨Nat.zero_le _, Nat.zero_le _⟩ rfl (fun τ_ H locs hp hW hS => ?_)
  obtain rfl := hp
  refine lv_aload_n hx hb dX4_person_24 rfl (lv_at hl 0 rfl) ?_
  refine va_get (D := D) (ci := cWx) (C := RX4) (T := TX4) (N := 2) (ws := [(w, .inr (cWx, [.ref (L 0 0), .ref (L2 0 0)]))]) (v := .ref (L 0 0)) hx hb hts (by decide +kernel) hown hK (wx_one hV hS hwA) 0 rfl rfl 0 (by decide) (hts (.fieldLink RX4 10 "Waxrow" "house" "LWaxrow$House;") (by decide +kernel)) (fun _ h9 => h9) rfl dX4_person_25 ?_
  refine va_get (D := D) (ci := cHo) (C := RX1) (T := TX1) (N := 11) (ws := [(L 0 0, hs_ct d L σ 0 0)]) (v := .int (σ 0 0 3)) hx hb hts (by decide +kernel) hown hK (hW.one hs_ix0) 0 rfl rfl 3 (by decide) (hts (.fieldLink RX4 23 "Waxrow$House" "personCount" "I") (by decide +kernel)) (fun _ h9 => h9) rfl dX4_person_28 ?_
  refine lv_bipush (v := 10) hx hb dX4_person_31 (by decide) ?_
  refine lv_icmp_ge (tgt := 40) hx hb dX4_person_33 (by decide) (fun c_33 => ?_) (fun c_33 => ?_)
  · exact absurd c_33 (sp_ge hok.hP 10 (N := 10) (by decide +kernel) hP9 (by decide))
  · refine lv_iconst (v := 1) hx hb dX4_person_36 (by decide) ?_
    refine lv_goto (tgt := 41) hx hb dX4_person_37 (by decide) ?_
    refine hs_runv (As := [.int 1]) ⟨hx, hb, hml, hown, hts⟩ (kX4_checkState l D d L σ A 1 (by decide +kernel)) (va_cwS 1 hts gX4_person_X4_checkState rfl rfl rfl (by decide +kernel) ⟨Nat.le_of_ble_eq_true rfl, Nat.le_of_ble_eq_true rfl⟩) hK hE hW hS rfl hl.1 (Nat.le_of_ble_eq_true rfl) dX4_person_41 ⟨Nat.zero_le _, Nat.zero_le _⟩ rfl (fun τ_ H locs hp hW hS => ?_)
    obtain rfl := hp
    refine lv_aload_n hx hb dX4_person_44 rfl (lv_at hl 0 rfl) ?_
    refine va_get (D := D) (ci := cWx) (C := RX4) (T := TX4) (N := 2) (ws := [(w, .inr (cWx, [.ref (L 0 0), .ref (L2 0 0)]))]) (v := .ref (L 0 0)) hx hb hts (by decide +kernel) hown hK (wx_one hV hS hwA) 0 rfl rfl 0 (by decide) (hts (.fieldLink RX4 10 "Waxrow" "house" "LWaxrow$House;") (by decide +kernel)) (fun _ h9 => h9) rfl dX4_person_45 ?_
    refine lv_iload_n hx hb dX4_person_48 rfl (lv_at hl 1 rfl) ?_
    refine lv_iload_n hx hb dX4_person_49 rfl (lv_at hl 2 rfl) ?_
    refine lv_iload_n hx hb dX4_person_50 rfl (lv_at hl 3 rfl) ?_
    refine hs_calli (As := [.int x, .int y, .int z]) ⟨hx, hb, hml, hown, hts⟩ (kX1_addPerson l D d L σ A P hok.hP hP9 x y z) (cwV 3 hts gX4_person_X1_addPerson rfl rfl rfl (by decide +kernel) ⟨Nat.le_of_ble_eq_true rfl, Nat.le_of_ble_eq_true rfl⟩) hK hE hW hS hs_ix0 (ci := cHo) (r := (RX1, TX1, 11)) rfl rfl rfl rfl hl.1 (Nat.le_of_ble_eq_true rfl) dX4_person_51 ⟨Nat.zero_le _, Nat.zero_le _⟩ rfl (fun r_ τ_ H locs hp hW hS => ?_)
    obtain ⟨rfl, rfl⟩ := hp
    exact W.iret (v := nI P) hx hb hr (fun t ht hW9 => ⟨⟨(nI P), (sp_newP σ P x y z), rfl, ⟨rfl, rfl⟩, ⟨by rw [ht]; exact hW, va_K.moved hW9.alike hK⟩⟩, hS.F ht⟩) hS.2.2 dX4_person_54
set_option maxHeartbeats 4000000 in
set_option maxRecDepth 100000 in
/-- room -/
theorem kX4_room (l : Launch) (D : va_G) (d : hs_Dm) (L : hs_Lo) (σ : hs_St) (A : Nat → Prop) (w : Nat) (L2 : hs_Lo) (hwA : ¬ A w) (P F R : Nat) (hok : hs_ok P F R σ) (hR4 : R < 5) (x y : Int32) (hx0 : ¬ x < 0) (hx9 : x ≤ 9) (hy0 : ¬ y < 1) (hy9 : y ≤ 4) : wx_Mi l yX4_room wsX4_room ({ frames := 3, cells := 0, slots := 0, locals := 68 }) D d w L L2 σ A [.ref w, .int x, .int y] (fun r τ => nI R = r ∧ sp_newR σ R x y = τ) := by
  refine Met.ofW (cc := cX4_room) (maxL := 3) (ret := (some .int)) (by decide) rfl ?_
  intro p e s m args below meth c s₁ B hml hv
  obtain ⟨rfl, ⟨⟨hW, hK⟩, hX⟩, hV⟩ := hv
  have hE := hX.1
  have hx := B.exec
  have hb := B.bytes
  have hr := B.returns
  have hts := atoms_spec (ws := wsX4_room) B.pre
  have hown : s.vm.findClass RX4 = some m.cls := findClass_of_methodNamed B.named
  have hlocks := B.notSynchronized
  have hS : va_S A s.heap s.heap [] := va_S.rf
  have hW : hs_W D d L σ A s.heap := hW
  have hl := lv_entry ([.ref w, .int x, .int y]) (n := 3) (Nat.le_of_ble_eq_true rfl)
  rw [lg_entry_eq]
  generalize (lg_sl ([.ref w, .int x, .int y]) ++ List.replicate (3 - (lg_sl ([.ref w, .int x, .int y])).length) Slot.unset).toArray = ls at hl ⊢
  have hl : lv_has ls 3 [(0, .ref w), (1, .int x), (2, .int y)] := hl
  have h10 := hok.1
  have h8 := hok.2.1
  have h5 := hok.2.2.1
  have hd_ := hok.hd
  refine lv_iload_n hx hb dX4_room_0 rfl (lv_at hl 1 rfl) ?_
  refine lv_iconst (v := 0) hx hb dX4_room_1 (by decide) ?_
  refine lv_bipush (v := 9) hx hb dX4_room_2 (by decide) ?_
  refine hs_runv (As := [.int x, .int 0, .int 9]) ⟨hx, hb, hml, hown, hts⟩ (kX4_checkArgument l D d L σ A x 0 9 hx0 hx9) (va_cwS 3 hts gX4_room_X4_checkArgument rfl rfl rfl (by decide +kernel) ⟨Nat.le_of_ble_eq_true rfl, Nat.le_of_ble_eq_true rfl⟩) hK hE hW hS rfl hl.1 (Nat.le_of_ble_eq_true rfl) dX4_room_4 ⟨Nat.zero_le _, Nat.zero_le _⟩ rfl (fun τ_ H locs hp hW hS => ?_)
  obtain rfl := hp
  refine lv_iload_n hx hb dX4_room_7 rfl (lv_at hl 2 rfl) ?_
  refine lv_iconst (v := 1) hx hb dX4_room_8 (by decide) ?_
  refine lv_iconst (v := 4) hx hb dX4_room_9 (by decide) ?_
  refine hs_runv (As := [.int y, .int 1, .int 4]) ⟨hx, hb, hml, hown, hts⟩ (kX4_checkArgument l D d L σ A y 1 4 hy0 hy9) (va_cwS 3 hts gX4_room_X4_checkArgument rfl rfl rfl (by decide +kernel) ⟨Nat.le_of_ble_eq_true rfl, Nat.le_of_ble_eq_true rfl⟩) hK hE hW hS rfl hl.1 (Nat.le_of_ble_eq_true rfl) dX4_room_10 ⟨Nat.zero_le _, Nat.zero_le _⟩ rfl (fun τ_ H locs hp hW hS => ?_)
  obtain rfl := hp
  refine lv_aload_n hx hb dX4_room_13 rfl (lv_at hl 0 rfl) ?_
  refine va_get (D := D) (ci := cWx) (C := RX4) (T := TX4) (N := 2) (ws := [(w, .inr (cWx, [.ref (L 0 0), .ref (L2 0 0)]))]) (v := .ref (L 0 0)) hx hb hts (by decide +kernel) hown hK (wx_one hV hS hwA) 0 rfl rfl 0 (by decide) (hts (.fieldLink RX4 10 "Waxrow" "house" "LWaxrow$House;") (by decide +kernel)) (fun _ h9 => h9) rfl dX4_room_14 ?_
  refine va_get (D := D) (ci := cHo) (C := RX1) (T := TX1) (N := 11) (ws := [(L 0 0, hs_ct d L σ 0 0)]) (v := .int (σ 0 0 5)) hx hb hts (by decide +kernel) hown hK (hW.one hs_ix0) 0 rfl rfl 5 (by decide) (hts (.fieldLink RX4 150 "Waxrow$House" "roomCount" "I") (by decide +kernel)) (fun _ h9 => h9) rfl dX4_room_17 ?_
  refine lv_iconst (v := 5) hx hb dX4_room_20 (by decide) ?_
  refine lv_icmp_ge (tgt := 28) hx hb dX4_room_21 (by decide) (fun c_21 => ?_) (fun c_21 => ?_)
  · exact absurd c_21 (sp_ge hok.hR 5 (N := 5) (by decide +kernel) hR4 (by decide))
  · refine lv_iconst (v := 1) hx hb dX4_room_24 (by decide) ?_
    refine lv_goto (tgt := 29) hx hb dX4_room_25 (by decide) ?_
    refine hs_runv (As := [.int 1]) ⟨hx, hb, hml, hown, hts⟩ (kX4_checkState l D d L σ A 1 (by decide +kernel)) (va_cwS 1 hts gX4_room_X4_checkState rfl rfl rfl (by decide +kernel) ⟨Nat.le_of_ble_eq_true rfl, Nat.le_of_ble_eq_true rfl⟩) hK hE hW hS rfl hl.1 (Nat.le_of_ble_eq_true rfl) dX4_room_29 ⟨Nat.zero_le _, Nat.zero_le _⟩ rfl (fun τ_ H locs hp hW hS => ?_)
    obtain rfl := hp
    refine lv_aload_n hx hb dX4_room_32 rfl (lv_at hl 0 rfl) ?_
    refine va_get (D := D) (ci := cWx) (C := RX4) (T := TX4) (N := 2) (ws := [(w, .inr (cWx, [.ref (L 0 0), .ref (L2 0 0)]))]) (v := .ref (L 0 0)) hx hb hts (by decide +kernel) hown hK (wx_one hV hS hwA) 0 rfl rfl 0 (by decide) (hts (.fieldLink RX4 10 "Waxrow" "house" "LWaxrow$House;") (by decide +kernel)) (fun _ h9 => h9) rfl dX4_room_33 ?_
    refine lv_iload_n hx hb dX4_room_36 rfl (lv_at hl 1 rfl) ?_
    refine lv_iload_n hx hb dX4_room_37 rfl (lv_at hl 2 rfl) ?_
    refine hs_calli (As := [.int x, .int y]) ⟨hx, hb, hml, hown, hts⟩ (kX1_addRoom l D d L σ A R hok.hR hR4 x y) (cwV 2 hts gX4_room_X1_addRoom rfl rfl rfl (by decide +kernel) ⟨Nat.le_of_ble_eq_true rfl, Nat.le_of_ble_eq_true rfl⟩) hK hE hW hS hs_ix0 (ci := cHo) (r := (RX1, TX1, 11)) rfl rfl rfl rfl hl.1 (Nat.le_of_ble_eq_true rfl) dX4_room_38 ⟨Nat.zero_le _, Nat.zero_le _⟩ rfl (fun r_ τ_ H locs hp hW hS => ?_)
    obtain ⟨rfl, rfl⟩ := hp
    exact W.iret (v := nI R) hx hb hr (fun t ht hW9 => ⟨⟨(nI R), (sp_newR σ R x y), rfl, ⟨rfl, rfl⟩, ⟨by rw [ht]; exact hW, va_K.moved hW9.alike hK⟩⟩, hS.F ht⟩) hS.2.2 dX4_room_41
set_option maxHeartbeats 4000000 in
set_option maxRecDepth 100000 in
/-- price -/
theorem kX4_price (l : Launch) (D : va_G) (d : hs_Dm) (L : hs_Lo) (σ : hs_St) (A : Nat → Prop) (w : Nat) (L2 : hs_Lo) (hwA : ¬ A w) (P F R : Nat) (hok : hs_ok P F R σ) (x : Int32) (hx0 : ¬ x < 0) (hx9 : x ≤ 20) : wx_Mi l yX4_price wsX4_price ({ frames := 1, cells := 0, slots := 0, locals := 30 }) D d w L L2 σ A [.ref w, .int x] (fun r τ => σ 0 0 9 = r ∧ hs_sg σ 0 0 9 x = τ) := by
  refine Met.ofW (cc := cX4_price) (maxL := 3) (ret := (some .int)) (by decide) rfl ?_
  intro p e s m args below meth c s₁ B hml hv
  obtain ⟨rfl, ⟨⟨hW, hK⟩, hX⟩, hV⟩ := hv
  have hE := hX.1
  have hx := B.exec
  have hb := B.bytes
  have hr := B.returns
  have hts := atoms_spec (ws := wsX4_price) B.pre
  have hown : s.vm.findClass RX4 = some m.cls := findClass_of_methodNamed B.named
  have hlocks := B.notSynchronized
  have hS : va_S A s.heap s.heap [] := va_S.rf
  have hW : hs_W D d L σ A s.heap := hW
  have hl := lv_entry ([.ref w, .int x]) (n := 3) (Nat.le_of_ble_eq_true rfl)
  rw [lg_entry_eq]
  generalize (lg_sl ([.ref w, .int x]) ++ List.replicate (3 - (lg_sl ([.ref w, .int x])).length) Slot.unset).toArray = ls at hl ⊢
  have hl : lv_has ls 3 [(0, .ref w), (1, .int x)] := hl
  have h10 := hok.1
  have h8 := hok.2.1
  have h5 := hok.2.2.1
  have hd_ := hok.hd
  refine lv_iload_n hx hb dX4_price_0 rfl (lv_at hl 1 rfl) ?_
  refine lv_iconst (v := 0) hx hb dX4_price_1 (by decide) ?_
  refine lv_bipush (v := 20) hx hb dX4_price_2 (by decide) ?_
  refine hs_runv (As := [.int x, .int 0, .int 20]) ⟨hx, hb, hml, hown, hts⟩ (kX4_checkArgument l D d L σ A x 0 20 hx0 hx9) (va_cwS 3 hts gX4_price_X4_checkArgument rfl rfl rfl (by decide +kernel) ⟨Nat.le_of_ble_eq_true rfl, Nat.le_of_ble_eq_true rfl⟩) hK hE hW hS rfl hl.1 (Nat.le_of_ble_eq_true rfl) dX4_price_4 ⟨Nat.zero_le _, Nat.zero_le _⟩ rfl (fun τ_ H locs hp hW hS => ?_)
  obtain rfl := hp
  refine lv_aload_n hx hb dX4_price_7 rfl (lv_at hl 0 rfl) ?_
  refine va_get (D := D) (ci := cWx) (C := RX4) (T := TX4) (N := 2) (ws := [(w, .inr (cWx, [.ref (L 0 0), .ref (L2 0 0)]))]) (v := .ref (L 0 0)) hx hb hts (by decide +kernel) hown hK (wx_one hV hS hwA) 0 rfl rfl 0 (by decide) (hts (.fieldLink RX4 10 "Waxrow" "house" "LWaxrow$House;") (by decide +kernel)) (fun _ h9 => h9) rfl dX4_price_8 ?_
  refine va_get (D := D) (ci := cHo) (C := RX1) (T := TX1) (N := 11) (ws := [(L 0 0, hs_ct d L σ 0 0)]) (v := .int (σ 0 0 9)) hx hb hts (by decide +kernel) hown hK (hW.one hs_ix0) 0 rfl rfl 9 (by decide) (hts (.fieldLink RX4 183 "Waxrow$House" "price" "I") (by decide +kernel)) (fun _ h9 => h9) rfl dX4_price_11 ?_
  refine lv_istore_n (lv' := [(2, .int (σ 0 0 9)), (0, .ref w), (1, .int x)]) hx hb dX4_price_14 rfl hl (by decide) rfl (fun ls hl => ?_)
  refine lv_aload_n hx hb dX4_price_15 rfl (lv_at hl 1 rfl) ?_
  refine va_get (D := D) (ci := cWx) (C := RX4) (T := TX4) (N := 2) (ws := [(w, .inr (cWx, [.ref (L 0 0), .ref (L2 0 0)]))]) (v := .ref (L 0 0)) hx hb hts (by decide +kernel) hown hK (wx_one hV hS hwA) 0 rfl rfl 0 (by decide) (hts (.fieldLink RX4 10 "Waxrow" "house" "LWaxrow$House;") (by decide +kernel)) (fun _ h9 => h9) rfl dX4_price_16 ?_
  refine lv_iload_n hx hb dX4_price_19 rfl (lv_at hl 2 rfl) ?_
  refine hs_put (ci := cHo) (C := RX1) (T := TX1) (N := 11) (ty := .int) hx hb hts (by decide +kernel) tyX1 tyX1_ok nmX1 hown hK hW hS 0 0 hs_ix0 rfl rfl 9 (by decide) (hts (.fieldLink RX4 183 "Waxrow$House" "price" "I") (by decide +kernel)) (fun _ h9 => h9) rfl (by decide +kernel) rfl rfl (Nat.le_of_ble_eq_true rfl) (hs_sg σ 0 0 9 x) (by simp [hs_ct, hs_sg]) (hs_off _ _ _ _ _) dX4_price_20 (fun H locs hW hS => ?_)
  refine lv_iload_n hx hb dX4_price_23 rfl (lv_at hl 0 rfl) ?_
  exact W.iret (v := σ 0 0 9) hx hb hr (fun t ht hW9 => ⟨⟨(σ 0 0 9), (hs_sg σ 0 0 9 x), rfl, ⟨rfl, rfl⟩, ⟨by rw [ht]; exact hW, va_K.moved hW9.alike hK⟩⟩, hS.F ht⟩) hS.2.2 dX4_price_24
set_option maxHeartbeats 4000000 in
set_option maxRecDepth 100000 in
/-- pass: the loop at 28 -/
theorem lkX4_pass (l : Launch) (D : va_G) (d : hs_Dm) (L : hs_Lo) (σ : hs_St) (A : Nat → Prop) (w : Nat) (L2 : hs_Lo) (hwA : ¬ A w) {p : Program} {e : Env} {s : State} {m : MethodId} {args : Array Value} {below : List Frame} {meth : Method} {c : Code} (P F R : Nat) (hok : hs_ok P F R σ) (M : Nat) (hM1 : 1 ≤ M) (hM : M ≤ 40) (x z : Int32)   (hx : p.tables.exec = Jvm.exec) (hb : c.code = cX4_pass) (hr : meth.sig.returnType = (some .int)) (hts : ∀ w ∈ wsX4_pass, w.before args s = true) (hown : s.vm.findClass RX4 = some m.cls) (hlocks : meth.locks = false) (hml : c.maxLocals = 6) (hK : va_K D vwCl (hs_ty d) s) (hE : hs_E d.2.2.2.2 A s) (hX : hx_E d.2.2.2.2 A s) (hV : va_at D vwCl (w, .inr (cWx, [.ref (L 0 0), .ref (L2 0 0)])) s.heap)  : ∀ (k n : Nat), n + k = M → ∀ (H : Heap) (locs : List Loc), hs_W D d L ((sp_pass σ P F x z n).2) A H → va_S A s.heap H locs → ∀ ls : Array Slot, lv_has ls 6 [(0, .ref w), (1, .int (nI M)), (2, .int x), (3, .int z), (4, .int ((sp_pass σ P F x z n).1)), (5, .int (nI n))] → W p l e ({ frames := 5, cells := 0, slots := 0, locals := 120 } : Room) s m args below meth c H locs 0 0 (MQ below (va_Qi (fun r τ => (sp_pass σ P F x z M).1 = r ∧ (sp_pass σ P F x z M).2 = τ) (fun τ t => hs_B D d L τ A t) A) args s 0 0 A) (F0 m 28 ls []) := by
  intro k
  induction k with
  | zero =>
    intro n hn H locs hW hS ls hl
    have hnN : n = M := by omega
    refine lv_iload hx hb dX4_pass_28 (lv_at hl 5 rfl) ?_
    refine lv_iload_n hx hb dX4_pass_30 rfl (lv_at hl 1 rfl) ?_
    refine lv_icmp_ge (tgt := 54) hx hb dX4_pass_31 (by decide) (fun c_31 => ?_) (fun c_31 => ?_)
    · refine lv_iload hx hb dX4_pass_54 (lv_at hl 4 rfl) ?_
      exact W.iret (v := (sp_pass σ P F x z n).1) hx hb hr (fun t ht hW9 => ⟨⟨((sp_pass σ P F x z n).1), ((sp_pass σ P F x z n).2), rfl, ⟨by rw [hnN], by rw [hnN]⟩, ⟨by rw [ht]; exact hW, va_K.moved hW9.alike hK⟩⟩, hS.F ht⟩) hS.2.2 dX4_pass_56
    · exact absurd (by rw [show nI M = nI M from rfl, hnN]; exact nI_le (Nat.le_refl _) (by omega)) c_31
  | succ k ih =>
    intro n hn H locs hW hS ls hl
    have hnN : n < M := by omega
    refine lv_iload hx hb dX4_pass_28 (lv_at hl 5 rfl) ?_
    refine lv_iload_n hx hb dX4_pass_30 rfl (lv_at hl 1 rfl) ?_
    refine lv_icmp_ge (tgt := 54) hx hb dX4_pass_31 (by decide) (fun c_31 => ?_) (fun c_31 => ?_)
    · exact absurd (by rw [show nI M = nI M from rfl] at c_31; exact c_31) (nI_ge hnN (by omega))
    · refine lv_iload hx hb dX4_pass_34 (lv_at hl 4 rfl) ?_
      refine lv_aload_n hx hb dX4_pass_36 rfl (lv_at hl 0 rfl) ?_
      refine va_get (D := D) (ci := cWx) (C := RX4) (T := TX4) (N := 2) (ws := [(w, .inr (cWx, [.ref (L 0 0), .ref (L2 0 0)]))]) (v := .ref (L 0 0)) hx hb hts (by decide +kernel) hown hK (wx_one hV hS hwA) 0 rfl rfl 0 (by decide) (hts (.fieldLink RX4 10 "Waxrow" "house" "LWaxrow$House;") (by decide +kernel)) (fun _ h9 => h9) rfl dX4_pass_37 ?_
      refine lv_iload_n hx hb dX4_pass_40 rfl (lv_at hl 2 rfl) ?_
      refine lv_iload_n hx hb dX4_pass_41 rfl (lv_at hl 3 rfl) ?_
      refine hs_calli (As := [.int x, .int z]) ⟨hx, hb, hml, hown, hts⟩ (kX1_passDay l D d L ((sp_pass σ P F x z n).2) A P F R (sp_pass_ok x z hok n) x z) (cwV 2 hts gX4_pass_X1_passDay rfl rfl rfl (by decide +kernel) ⟨Nat.le_of_ble_eq_true rfl, Nat.le_of_ble_eq_true rfl⟩) hK hE hW hS hs_ix0 (ci := cHo) (r := (RX1, TX1, 11)) rfl rfl rfl rfl hl.1 (Nat.le_of_ble_eq_true rfl) dX4_pass_42 ⟨Nat.zero_le _, Nat.zero_le _⟩ rfl (fun r_ τ_ H locs hp hW hS => ?_)
      obtain ⟨rfl, rfl⟩ := hp
      refine lv_iadd hx hb dX4_pass_45 ?_
      refine lv_istore (lv' := [(4, .int (((sp_pass σ P F x z n).1) + ((sp_day ((sp_pass σ P F x z n).2) P F x z).1))), (0, .ref w), (1, .int (nI M)), (2, .int x), (3, .int z), (5, .int (nI n))]) hx hb dX4_pass_46 hl (by decide) rfl (fun ls hl => ?_)
      refine lv_iinc (v := nI (n + 1)) (lv' := [(5, .int (nI (n + 1))), (4, .int (((sp_pass σ P F x z n).1) + ((sp_day ((sp_pass σ P F x z n).2) P F x z).1))), (0, .ref w), (1, .int (nI M)), (2, .int x), (3, .int z)]) hx hb dX4_pass_48 hl (k := 5) rfl (nI_succ _).symm (by decide) rfl (fun ls hl => ?_)
      refine lv_goto (tgt := 28) hx hb dX4_pass_51 (by decide) ?_
      have e_4 : ((sp_pass σ P F x z n).1) + ((sp_day ((sp_pass σ P F x z n).2) P F x z).1) = (sp_pass σ P F x z (n + 1)).1 := rfl
      rw [e_4] at hl
      have e_s : (sp_day ((sp_pass σ P F x z n).2) P F x z).2 = (sp_pass σ P F x z (n + 1)).2 := rfl
      rw [e_s] at hW
      exact ih (n + 1) (by omega) _ _ hW hS ls (lv_sub hl [2, 3, 4, 5, 1, 0] rfl)
set_option maxHeartbeats 4000000 in
set_option maxRecDepth 100000 in
/-- pass -/
theorem kX4_pass (l : Launch) (D : va_G) (d : hs_Dm) (L : hs_Lo) (σ : hs_St) (A : Nat → Prop) (w : Nat) (L2 : hs_Lo) (hwA : ¬ A w) (P F R : Nat) (hok : hs_ok P F R σ) (M : Nat) (hM1 : 1 ≤ M) (hM : M ≤ 40) (x z : Int32) (hx0 : ¬ x < 0) (hx9 : x ≤ 2000) (hz0 : ¬ z < 0) (hz9 : z ≤ 40) : wx_Mi l yX4_pass wsX4_pass ({ frames := 5, cells := 0, slots := 0, locals := 120 }) D d w L L2 σ A [.ref w, .int (nI M), .int x, .int z] (fun r τ => (sp_pass σ P F x z M).1 = r ∧ (sp_pass σ P F x z M).2 = τ) := by
  refine Met.ofW (cc := cX4_pass) (maxL := 6) (ret := (some .int)) (by decide) rfl ?_
  intro p e s m args below meth c s₁ B hml hv
  obtain ⟨rfl, ⟨⟨hW, hK⟩, hX⟩, hV⟩ := hv
  have hE := hX.1
  have hx := B.exec
  have hb := B.bytes
  have hr := B.returns
  have hts := atoms_spec (ws := wsX4_pass) B.pre
  have hown : s.vm.findClass RX4 = some m.cls := findClass_of_methodNamed B.named
  have hlocks := B.notSynchronized
  have hS : va_S A s.heap s.heap [] := va_S.rf
  have hW : hs_W D d L σ A s.heap := hW
  have hl := lv_entry ([.ref w, .int (nI M), .int x, .int z]) (n := 6) (Nat.le_of_ble_eq_true rfl)
  rw [lg_entry_eq]
  generalize (lg_sl ([.ref w, .int (nI M), .int x, .int z]) ++ List.replicate (6 - (lg_sl ([.ref w, .int (nI M), .int x, .int z])).length) Slot.unset).toArray = ls at hl ⊢
  have hl : lv_has ls 6 [(0, .ref w), (1, .int (nI M)), (2, .int x), (3, .int z)] := hl
  have h10 := hok.1
  have h8 := hok.2.1
  have h5 := hok.2.2.1
  have hd_ := hok.hd
  refine lv_iload_n hx hb dX4_pass_0 rfl (lv_at hl 1 rfl) ?_
  refine lv_iconst (v := 1) hx hb dX4_pass_1 (by decide) ?_
  refine lv_bipush (v := 40) hx hb dX4_pass_2 (by decide) ?_
  refine hs_runv (As := [.int (nI M), .int 1, .int 40]) ⟨hx, hb, hml, hown, hts⟩ (kX4_checkArgument l D d L σ A (nI M) 1 40 (by rw [show (1 : Int32) = nI 1 from by decide +kernel]; exact nI_nlt hM1 (by omega)) (by rw [show (40 : Int32) = nI 40 from by decide +kernel]; exact nI_le hM (by omega))) (va_cwS 3 hts gX4_pass_X4_checkArgument rfl rfl rfl (by decide +kernel) ⟨Nat.le_of_ble_eq_true rfl, Nat.le_of_ble_eq_true rfl⟩) hK hE hW hS rfl hl.1 (Nat.le_of_ble_eq_true rfl) dX4_pass_4 ⟨Nat.zero_le _, Nat.zero_le _⟩ rfl (fun τ_ H locs hp hW hS => ?_)
  obtain rfl := hp
  refine lv_iload_n hx hb dX4_pass_7 rfl (lv_at hl 2 rfl) ?_
  refine lv_iconst (v := 0) hx hb dX4_pass_8 (by decide) ?_
  refine lv_sipush (v := 2000) hx hb dX4_pass_9 (by decide) ?_
  refine hs_runv (As := [.int x, .int 0, .int 2000]) ⟨hx, hb, hml, hown, hts⟩ (kX4_checkArgument l D d L σ A x 0 2000 hx0 hx9) (va_cwS 3 hts gX4_pass_X4_checkArgument rfl rfl rfl (by decide +kernel) ⟨Nat.le_of_ble_eq_true rfl, Nat.le_of_ble_eq_true rfl⟩) hK hE hW hS rfl hl.1 (Nat.le_of_ble_eq_true rfl) dX4_pass_12 ⟨Nat.zero_le _, Nat.zero_le _⟩ rfl (fun τ_ H locs hp hW hS => ?_)
  obtain rfl := hp
  refine lv_iload_n hx hb dX4_pass_15 rfl (lv_at hl 3 rfl) ?_
  refine lv_iconst (v := 0) hx hb dX4_pass_16 (by decide) ?_
  refine lv_bipush (v := 40) hx hb dX4_pass_17 (by decide) ?_
  refine hs_runv (As := [.int z, .int 0, .int 40]) ⟨hx, hb, hml, hown, hts⟩ (kX4_checkArgument l D d L σ A z 0 40 hz0 hz9) (va_cwS 3 hts gX4_pass_X4_checkArgument rfl rfl rfl (by decide +kernel) ⟨Nat.le_of_ble_eq_true rfl, Nat.le_of_ble_eq_true rfl⟩) hK hE hW hS rfl hl.1 (Nat.le_of_ble_eq_true rfl) dX4_pass_19 ⟨Nat.zero_le _, Nat.zero_le _⟩ rfl (fun τ_ H locs hp hW hS => ?_)
  obtain rfl := hp
  refine lv_iconst (v := 0) hx hb dX4_pass_22 (by decide) ?_
  refine lv_istore (lv' := [(4, .int 0), (0, .ref w), (1, .int (nI M)), (2, .int x), (3, .int z)]) hx hb dX4_pass_23 hl (by decide) rfl (fun ls hl => ?_)
  refine lv_iconst (v := 0) hx hb dX4_pass_25 (by decide) ?_
  refine lv_istore (lv' := [(5, .int 0), (4, .int 0), (0, .ref w), (1, .int (nI M)), (2, .int x), (3, .int z)]) hx hb dX4_pass_26 hl (by decide) rfl (fun ls hl => ?_)
  exact lkX4_pass l D d L σ A w L2 hwA P F R hok M hM1 hM x z hx hb hr hts hown hlocks hml hK hE hX hV M 0 (by omega) _ _ hW hS ls (lv_sub hl [2, 3, 4, 5, 1, 0] rfl)
set_option maxHeartbeats 4000000 in
set_option maxRecDepth 100000 in
/-- many -/
theorem kX4_many_0 (l : Launch) (D : va_G) (d : hs_Dm) (L : hs_Lo) (σ : hs_St) (A : Nat → Prop) (w : Nat) (L2 : hs_Lo) (hwA : ¬ A w) (P F R : Nat) (hok : hs_ok P F R σ)  : wx_Mi l yX4_many wsX4_many ({ frames := 5, cells := 0, slots := 0, locals := 100 }) D d w L L2 σ A [.ref w, .int (nI 0)] (fun r τ => sp_many σ P F 0 = r ∧ σ = τ) := by
  refine Met.ofW (cc := cX4_many) (maxL := 2) (ret := (some .int)) (by decide) rfl ?_
  intro p e s m args below meth c s₁ B hml hv
  obtain ⟨rfl, ⟨⟨hW, hK⟩, hX⟩, hV⟩ := hv
  have hE := hX.1
  have hx := B.exec
  have hb := B.bytes
  have hr := B.returns
  have hts := atoms_spec (ws := wsX4_many) B.pre
  have hown : s.vm.findClass RX4 = some m.cls := findClass_of_methodNamed B.named
  have hlocks := B.notSynchronized
  have hS : va_S A s.heap s.heap [] := va_S.rf
  have hW : hs_W D d L σ A s.heap := hW
  have hl := lv_entry ([.ref w, .int (nI 0)]) (n := 2) (Nat.le_of_ble_eq_true rfl)
  rw [lg_entry_eq]
  generalize (lg_sl ([.ref w, .int (nI 0)]) ++ List.replicate (2 - (lg_sl ([.ref w, .int (nI 0)])).length) Slot.unset).toArray = ls at hl ⊢
  have hl : lv_has ls 2 [(0, .ref w), (1, .int (nI 0))] := hl
  have h10 := hok.1
  have h8 := hok.2.1
  have h5 := hok.2.2.1
  have hd_ := hok.hd
  refine lv_iload_n hx hb dX4_many_0 rfl (lv_at hl 1 rfl) ?_
  refine lv_iconst (v := 0) hx hb dX4_many_1 (by decide) ?_
  refine lv_bipush (v := 14) hx hb dX4_many_2 (by decide) ?_
  refine hs_runv (As := [.int (nI 0), .int 0, .int 14]) ⟨hx, hb, hml, hown, hts⟩ (kX4_checkArgument l D d L σ A (nI 0) 0 14 (by decide +kernel) (by decide +kernel)) (va_cwS 3 hts gX4_many_X4_checkArgument rfl rfl rfl (by decide +kernel) ⟨Nat.le_of_ble_eq_true rfl, Nat.le_of_ble_eq_true rfl⟩) hK hE hW hS rfl hl.1 (Nat.le_of_ble_eq_true rfl) dX4_many_4 ⟨Nat.zero_le _, Nat.zero_le _⟩ rfl (fun τ_ H locs hp hW hS => ?_)
  obtain rfl := hp
  refine lv_iload_n hx hb dX4_many_7 rfl (lv_at hl 1 rfl) ?_
  refine lv_tableIn (off := 72) (tgt := 80) hx hb dX4_many_8 (by decide +kernel) (by decide +kernel) (by decide +kernel) (by decide) ?_
  refine lv_aload_n hx hb dX4_many_80 rfl (lv_at hl 0 rfl) ?_
  refine va_get (D := D) (ci := cWx) (C := RX4) (T := TX4) (N := 2) (ws := [(w, .inr (cWx, [.ref (L 0 0), .ref (L2 0 0)]))]) (v := .ref (L 0 0)) hx hb hts (by decide +kernel) hown hK (wx_one hV hS hwA) 0 rfl rfl 0 (by decide) (hts (.fieldLink RX4 10 "Waxrow" "house" "LWaxrow$House;") (by decide +kernel)) (fun _ h9 => h9) rfl dX4_many_81 ?_
  refine va_get (D := D) (ci := cHo) (C := RX1) (T := TX1) (N := 11) (ws := [(L 0 0, hs_ct d L σ 0 0)]) (v := .int (σ 0 0 6)) hx hb hts (by decide +kernel) hown hK (hW.one hs_ix0) 0 rfl rfl 6 (by decide) (hts (.fieldLink RX4 213 "Waxrow$House" "day" "I") (by decide +kernel)) (fun _ h9 => h9) rfl dX4_many_84 ?_
  exact W.iret (v := σ 0 0 6) hx hb hr (fun t ht hW9 => ⟨⟨(σ 0 0 6), σ, rfl, ⟨rfl, rfl⟩, ⟨by rw [ht]; exact hW, va_K.moved hW9.alike hK⟩⟩, hS.F ht⟩) hS.2.2 dX4_many_87
set_option maxHeartbeats 4000000 in
set_option maxRecDepth 100000 in
/-- many -/
theorem kX4_many_1 (l : Launch) (D : va_G) (d : hs_Dm) (L : hs_Lo) (σ : hs_St) (A : Nat → Prop) (w : Nat) (L2 : hs_Lo) (hwA : ¬ A w) (P F R : Nat) (hok : hs_ok P F R σ)  : wx_Mi l yX4_many wsX4_many ({ frames := 5, cells := 0, slots := 0, locals := 100 }) D d w L L2 σ A [.ref w, .int (nI 1)] (fun r τ => sp_many σ P F 1 = r ∧ σ = τ) := by
  refine Met.ofW (cc := cX4_many) (maxL := 2) (ret := (some .int)) (by decide) rfl ?_
  intro p e s m args below meth c s₁ B hml hv
  obtain ⟨rfl, ⟨⟨hW, hK⟩, hX⟩, hV⟩ := hv
  have hE := hX.1
  have hx := B.exec
  have hb := B.bytes
  have hr := B.returns
  have hts := atoms_spec (ws := wsX4_many) B.pre
  have hown : s.vm.findClass RX4 = some m.cls := findClass_of_methodNamed B.named
  have hlocks := B.notSynchronized
  have hS : va_S A s.heap s.heap [] := va_S.rf
  have hW : hs_W D d L σ A s.heap := hW
  have hl := lv_entry ([.ref w, .int (nI 1)]) (n := 2) (Nat.le_of_ble_eq_true rfl)
  rw [lg_entry_eq]
  generalize (lg_sl ([.ref w, .int (nI 1)]) ++ List.replicate (2 - (lg_sl ([.ref w, .int (nI 1)])).length) Slot.unset).toArray = ls at hl ⊢
  have hl : lv_has ls 2 [(0, .ref w), (1, .int (nI 1))] := hl
  have h10 := hok.1
  have h8 := hok.2.1
  have h5 := hok.2.2.1
  have hd_ := hok.hd
  refine lv_iload_n hx hb dX4_many_0 rfl (lv_at hl 1 rfl) ?_
  refine lv_iconst (v := 0) hx hb dX4_many_1 (by decide) ?_
  refine lv_bipush (v := 14) hx hb dX4_many_2 (by decide) ?_
  refine hs_runv (As := [.int (nI 1), .int 0, .int 14]) ⟨hx, hb, hml, hown, hts⟩ (kX4_checkArgument l D d L σ A (nI 1) 0 14 (by decide +kernel) (by decide +kernel)) (va_cwS 3 hts gX4_many_X4_checkArgument rfl rfl rfl (by decide +kernel) ⟨Nat.le_of_ble_eq_true rfl, Nat.le_of_ble_eq_true rfl⟩) hK hE hW hS rfl hl.1 (Nat.le_of_ble_eq_true rfl) dX4_many_4 ⟨Nat.zero_le _, Nat.zero_le _⟩ rfl (fun τ_ H locs hp hW hS => ?_)
  obtain rfl := hp
  refine lv_iload_n hx hb dX4_many_7 rfl (lv_at hl 1 rfl) ?_
  refine lv_tableIn (off := 80) (tgt := 88) hx hb dX4_many_8 (by decide +kernel) (by decide +kernel) (by decide +kernel) (by decide) ?_
  refine lv_aload_n hx hb dX4_many_88 rfl (lv_at hl 0 rfl) ?_
  refine va_get (D := D) (ci := cWx) (C := RX4) (T := TX4) (N := 2) (ws := [(w, .inr (cWx, [.ref (L 0 0), .ref (L2 0 0)]))]) (v := .ref (L 0 0)) hx hb hts (by decide +kernel) hown hK (wx_one hV hS hwA) 0 rfl rfl 0 (by decide) (hts (.fieldLink RX4 10 "Waxrow" "house" "LWaxrow$House;") (by decide +kernel)) (fun _ h9 => h9) rfl dX4_many_89 ?_
  refine va_get (D := D) (ci := cHo) (C := RX1) (T := TX1) (N := 11) (ws := [(L 0 0, hs_ct d L σ 0 0)]) (v := .int (σ 0 0 3)) hx hb hts (by decide +kernel) hown hK (hW.one hs_ix0) 0 rfl rfl 3 (by decide) (hts (.fieldLink RX4 23 "Waxrow$House" "personCount" "I") (by decide +kernel)) (fun _ h9 => h9) rfl dX4_many_92 ?_
  exact W.iret (v := σ 0 0 3) hx hb hr (fun t ht hW9 => ⟨⟨(σ 0 0 3), σ, rfl, ⟨rfl, rfl⟩, ⟨by rw [ht]; exact hW, va_K.moved hW9.alike hK⟩⟩, hS.F ht⟩) hS.2.2 dX4_many_95
set_option maxHeartbeats 4000000 in
set_option maxRecDepth 100000 in
/-- many -/
theorem kX4_many_2 (l : Launch) (D : va_G) (d : hs_Dm) (L : hs_Lo) (σ : hs_St) (A : Nat → Prop) (w : Nat) (L2 : hs_Lo) (hwA : ¬ A w) (P F R : Nat) (hok : hs_ok P F R σ)  : wx_Mi l yX4_many wsX4_many ({ frames := 5, cells := 0, slots := 0, locals := 100 }) D d w L L2 σ A [.ref w, .int (nI 2)] (fun r τ => sp_many σ P F 2 = r ∧ σ = τ) := by
  refine Met.ofW (cc := cX4_many) (maxL := 2) (ret := (some .int)) (by decide) rfl ?_
  intro p e s m args below meth c s₁ B hml hv
  obtain ⟨rfl, ⟨⟨hW, hK⟩, hX⟩, hV⟩ := hv
  have hE := hX.1
  have hx := B.exec
  have hb := B.bytes
  have hr := B.returns
  have hts := atoms_spec (ws := wsX4_many) B.pre
  have hown : s.vm.findClass RX4 = some m.cls := findClass_of_methodNamed B.named
  have hlocks := B.notSynchronized
  have hS : va_S A s.heap s.heap [] := va_S.rf
  have hW : hs_W D d L σ A s.heap := hW
  have hl := lv_entry ([.ref w, .int (nI 2)]) (n := 2) (Nat.le_of_ble_eq_true rfl)
  rw [lg_entry_eq]
  generalize (lg_sl ([.ref w, .int (nI 2)]) ++ List.replicate (2 - (lg_sl ([.ref w, .int (nI 2)])).length) Slot.unset).toArray = ls at hl ⊢
  have hl : lv_has ls 2 [(0, .ref w), (1, .int (nI 2))] := hl
  have h10 := hok.1
  have h8 := hok.2.1
  have h5 := hok.2.2.1
  have hd_ := hok.hd
  refine lv_iload_n hx hb dX4_many_0 rfl (lv_at hl 1 rfl) ?_
  refine lv_iconst (v := 0) hx hb dX4_many_1 (by decide) ?_
  refine lv_bipush (v := 14) hx hb dX4_many_2 (by decide) ?_
  refine hs_runv (As := [.int (nI 2), .int 0, .int 14]) ⟨hx, hb, hml, hown, hts⟩ (kX4_checkArgument l D d L σ A (nI 2) 0 14 (by decide +kernel) (by decide +kernel)) (va_cwS 3 hts gX4_many_X4_checkArgument rfl rfl rfl (by decide +kernel) ⟨Nat.le_of_ble_eq_true rfl, Nat.le_of_ble_eq_true rfl⟩) hK hE hW hS rfl hl.1 (Nat.le_of_ble_eq_true rfl) dX4_many_4 ⟨Nat.zero_le _, Nat.zero_le _⟩ rfl (fun τ_ H locs hp hW hS => ?_)
  obtain rfl := hp
  refine lv_iload_n hx hb dX4_many_7 rfl (lv_at hl 1 rfl) ?_
  refine lv_tableIn (off := 88) (tgt := 96) hx hb dX4_many_8 (by decide +kernel) (by decide +kernel) (by decide +kernel) (by decide) ?_
  refine lv_aload_n hx hb dX4_many_96 rfl (lv_at hl 0 rfl) ?_
  refine va_get (D := D) (ci := cWx) (C := RX4) (T := TX4) (N := 2) (ws := [(w, .inr (cWx, [.ref (L 0 0), .ref (L2 0 0)]))]) (v := .ref (L 0 0)) hx hb hts (by decide +kernel) hown hK (wx_one hV hS hwA) 0 rfl rfl 0 (by decide) (hts (.fieldLink RX4 10 "Waxrow" "house" "LWaxrow$House;") (by decide +kernel)) (fun _ h9 => h9) rfl dX4_many_97 ?_
  refine va_get (D := D) (ci := cHo) (C := RX1) (T := TX1) (N := 11) (ws := [(L 0 0, hs_ct d L σ 0 0)]) (v := .int (σ 0 0 4)) hx hb hts (by decide +kernel) hown hK (hW.one hs_ix0) 0 rfl rfl 4 (by decide) (hts (.fieldLink RX4 88 "Waxrow$House" "figureCount" "I") (by decide +kernel)) (fun _ h9 => h9) rfl dX4_many_100 ?_
  exact W.iret (v := σ 0 0 4) hx hb hr (fun t ht hW9 => ⟨⟨(σ 0 0 4), σ, rfl, ⟨rfl, rfl⟩, ⟨by rw [ht]; exact hW, va_K.moved hW9.alike hK⟩⟩, hS.F ht⟩) hS.2.2 dX4_many_103
set_option maxHeartbeats 4000000 in
set_option maxRecDepth 100000 in
/-- many -/
theorem kX4_many_3 (l : Launch) (D : va_G) (d : hs_Dm) (L : hs_Lo) (σ : hs_St) (A : Nat → Prop) (w : Nat) (L2 : hs_Lo) (hwA : ¬ A w) (P F R : Nat) (hok : hs_ok P F R σ)  : wx_Mi l yX4_many wsX4_many ({ frames := 5, cells := 0, slots := 0, locals := 100 }) D d w L L2 σ A [.ref w, .int (nI 3)] (fun r τ => sp_many σ P F 3 = r ∧ σ = τ) := by
  refine Met.ofW (cc := cX4_many) (maxL := 2) (ret := (some .int)) (by decide) rfl ?_
  intro p e s m args below meth c s₁ B hml hv
  obtain ⟨rfl, ⟨⟨hW, hK⟩, hX⟩, hV⟩ := hv
  have hE := hX.1
  have hx := B.exec
  have hb := B.bytes
  have hr := B.returns
  have hts := atoms_spec (ws := wsX4_many) B.pre
  have hown : s.vm.findClass RX4 = some m.cls := findClass_of_methodNamed B.named
  have hlocks := B.notSynchronized
  have hS : va_S A s.heap s.heap [] := va_S.rf
  have hW : hs_W D d L σ A s.heap := hW
  have hl := lv_entry ([.ref w, .int (nI 3)]) (n := 2) (Nat.le_of_ble_eq_true rfl)
  rw [lg_entry_eq]
  generalize (lg_sl ([.ref w, .int (nI 3)]) ++ List.replicate (2 - (lg_sl ([.ref w, .int (nI 3)])).length) Slot.unset).toArray = ls at hl ⊢
  have hl : lv_has ls 2 [(0, .ref w), (1, .int (nI 3))] := hl
  have h10 := hok.1
  have h8 := hok.2.1
  have h5 := hok.2.2.1
  have hd_ := hok.hd
  refine lv_iload_n hx hb dX4_many_0 rfl (lv_at hl 1 rfl) ?_
  refine lv_iconst (v := 0) hx hb dX4_many_1 (by decide) ?_
  refine lv_bipush (v := 14) hx hb dX4_many_2 (by decide) ?_
  refine hs_runv (As := [.int (nI 3), .int 0, .int 14]) ⟨hx, hb, hml, hown, hts⟩ (kX4_checkArgument l D d L σ A (nI 3) 0 14 (by decide +kernel) (by decide +kernel)) (va_cwS 3 hts gX4_many_X4_checkArgument rfl rfl rfl (by decide +kernel) ⟨Nat.le_of_ble_eq_true rfl, Nat.le_of_ble_eq_true rfl⟩) hK hE hW hS rfl hl.1 (Nat.le_of_ble_eq_true rfl) dX4_many_4 ⟨Nat.zero_le _, Nat.zero_le _⟩ rfl (fun τ_ H locs hp hW hS => ?_)
  obtain rfl := hp
  refine lv_iload_n hx hb dX4_many_7 rfl (lv_at hl 1 rfl) ?_
  refine lv_tableIn (off := 96) (tgt := 104) hx hb dX4_many_8 (by decide +kernel) (by decide +kernel) (by decide +kernel) (by decide) ?_
  refine lv_aload_n hx hb dX4_many_104 rfl (lv_at hl 0 rfl) ?_
  refine va_get (D := D) (ci := cWx) (C := RX4) (T := TX4) (N := 2) (ws := [(w, .inr (cWx, [.ref (L 0 0), .ref (L2 0 0)]))]) (v := .ref (L 0 0)) hx hb hts (by decide +kernel) hown hK (wx_one hV hS hwA) 0 rfl rfl 0 (by decide) (hts (.fieldLink RX4 10 "Waxrow" "house" "LWaxrow$House;") (by decide +kernel)) (fun _ h9 => h9) rfl dX4_many_105 ?_
  refine hs_calli (As := []) ⟨hx, hb, hml, hown, hts⟩ (kX1_figuresDone l D d L σ A F hok.hF hok.2.1 ) (cwV 0 hts gX4_many_X1_figuresDone rfl rfl rfl (by decide +kernel) ⟨Nat.le_of_ble_eq_true rfl, Nat.le_of_ble_eq_true rfl⟩) hK hE hW hS hs_ix0 (ci := cHo) (r := (RX1, TX1, 11)) rfl rfl rfl rfl hl.1 (Nat.le_of_ble_eq_true rfl) dX4_many_108 ⟨Nat.zero_le _, Nat.zero_le _⟩ rfl (fun r_ τ_ H locs hp hW hS => ?_)
  obtain ⟨rfl, rfl⟩ := hp
  exact W.iret (v := sp_done σ F) hx hb hr (fun t ht hW9 => ⟨⟨(sp_done σ F), σ, rfl, ⟨rfl, rfl⟩, ⟨by rw [ht]; exact hW, va_K.moved hW9.alike hK⟩⟩, hS.F ht⟩) hS.2.2 dX4_many_111
set_option maxHeartbeats 4000000 in
set_option maxRecDepth 100000 in
/-- many -/
theorem kX4_many_4 (l : Launch) (D : va_G) (d : hs_Dm) (L : hs_Lo) (σ : hs_St) (A : Nat → Prop) (w : Nat) (L2 : hs_Lo) (hwA : ¬ A w) (P F R : Nat) (hok : hs_ok P F R σ)  : wx_Mi l yX4_many wsX4_many ({ frames := 5, cells := 0, slots := 0, locals := 100 }) D d w L L2 σ A [.ref w, .int (nI 4)] (fun r τ => sp_many σ P F 4 = r ∧ σ = τ) := by
  refine Met.ofW (cc := cX4_many) (maxL := 2) (ret := (some .int)) (by decide) rfl ?_
  intro p e s m args below meth c s₁ B hml hv
  obtain ⟨rfl, ⟨⟨hW, hK⟩, hX⟩, hV⟩ := hv
  have hE := hX.1
  have hx := B.exec
  have hb := B.bytes
  have hr := B.returns
  have hts := atoms_spec (ws := wsX4_many) B.pre
  have hown : s.vm.findClass RX4 = some m.cls := findClass_of_methodNamed B.named
  have hlocks := B.notSynchronized
  have hS : va_S A s.heap s.heap [] := va_S.rf
  have hW : hs_W D d L σ A s.heap := hW
  have hl := lv_entry ([.ref w, .int (nI 4)]) (n := 2) (Nat.le_of_ble_eq_true rfl)
  rw [lg_entry_eq]
  generalize (lg_sl ([.ref w, .int (nI 4)]) ++ List.replicate (2 - (lg_sl ([.ref w, .int (nI 4)])).length) Slot.unset).toArray = ls at hl ⊢
  have hl : lv_has ls 2 [(0, .ref w), (1, .int (nI 4))] := hl
  have h10 := hok.1
  have h8 := hok.2.1
  have h5 := hok.2.2.1
  have hd_ := hok.hd
  refine lv_iload_n hx hb dX4_many_0 rfl (lv_at hl 1 rfl) ?_
  refine lv_iconst (v := 0) hx hb dX4_many_1 (by decide) ?_
  refine lv_bipush (v := 14) hx hb dX4_many_2 (by decide) ?_
  refine hs_runv (As := [.int (nI 4), .int 0, .int 14]) ⟨hx, hb, hml, hown, hts⟩ (kX4_checkArgument l D d L σ A (nI 4) 0 14 (by decide +kernel) (by decide +kernel)) (va_cwS 3 hts gX4_many_X4_checkArgument rfl rfl rfl (by decide +kernel) ⟨Nat.le_of_ble_eq_true rfl, Nat.le_of_ble_eq_true rfl⟩) hK hE hW hS rfl hl.1 (Nat.le_of_ble_eq_true rfl) dX4_many_4 ⟨Nat.zero_le _, Nat.zero_le _⟩ rfl (fun τ_ H locs hp hW hS => ?_)
  obtain rfl := hp
  refine lv_iload_n hx hb dX4_many_7 rfl (lv_at hl 1 rfl) ?_
  refine lv_tableIn (off := 104) (tgt := 112) hx hb dX4_many_8 (by decide +kernel) (by decide +kernel) (by decide +kernel) (by decide) ?_
  refine lv_aload_n hx hb dX4_many_112 rfl (lv_at hl 0 rfl) ?_
  refine va_get (D := D) (ci := cWx) (C := RX4) (T := TX4) (N := 2) (ws := [(w, .inr (cWx, [.ref (L 0 0), .ref (L2 0 0)]))]) (v := .ref (L 0 0)) hx hb hts (by decide +kernel) hown hK (wx_one hV hS hwA) 0 rfl rfl 0 (by decide) (hts (.fieldLink RX4 10 "Waxrow" "house" "LWaxrow$House;") (by decide +kernel)) (fun _ h9 => h9) rfl dX4_many_113 ?_
  refine lv_iconst (v := 0) hx hb dX4_many_116 (by decide) ?_
  refine lv_iconst (v := 4) hx hb dX4_many_117 (by decide) ?_
  refine hs_calli (As := [.int 0, .int 4]) ⟨hx, hb, hml, hown, hts⟩ (kX1_figuresIn l D d L σ A 0 4 F hok.hF hok.2.1 ) (cwV 2 hts gX4_many_X1_figuresIn rfl rfl rfl (by decide +kernel) ⟨Nat.le_of_ble_eq_true rfl, Nat.le_of_ble_eq_true rfl⟩) hK hE hW hS hs_ix0 (ci := cHo) (r := (RX1, TX1, 11)) rfl rfl rfl rfl hl.1 (Nat.le_of_ble_eq_true rfl) dX4_many_118 ⟨Nat.zero_le _, Nat.zero_le _⟩ rfl (fun r_ τ_ H locs hp hW hS => ?_)
  obtain ⟨rfl, rfl⟩ := hp
  exact W.iret (v := sp_figIn σ 0 4 F) hx hb hr (fun t ht hW9 => ⟨⟨(sp_figIn σ 0 4 F), σ, rfl, ⟨rfl, rfl⟩, ⟨by rw [ht]; exact hW, va_K.moved hW9.alike hK⟩⟩, hS.F ht⟩) hS.2.2 dX4_many_121
set_option maxHeartbeats 4000000 in
set_option maxRecDepth 100000 in
/-- many -/
theorem kX4_many_5 (l : Launch) (D : va_G) (d : hs_Dm) (L : hs_Lo) (σ : hs_St) (A : Nat → Prop) (w : Nat) (L2 : hs_Lo) (hwA : ¬ A w) (P F R : Nat) (hok : hs_ok P F R σ)  : wx_Mi l yX4_many wsX4_many ({ frames := 5, cells := 0, slots := 0, locals := 100 }) D d w L L2 σ A [.ref w, .int (nI 5)] (fun r τ => sp_many σ P F 5 = r ∧ σ = τ) := by
  refine Met.ofW (cc := cX4_many) (maxL := 2) (ret := (some .int)) (by decide) rfl ?_
  intro p e s m args below meth c s₁ B hml hv
  obtain ⟨rfl, ⟨⟨hW, hK⟩, hX⟩, hV⟩ := hv
  have hE := hX.1
  have hx := B.exec
  have hb := B.bytes
  have hr := B.returns
  have hts := atoms_spec (ws := wsX4_many) B.pre
  have hown : s.vm.findClass RX4 = some m.cls := findClass_of_methodNamed B.named
  have hlocks := B.notSynchronized
  have hS : va_S A s.heap s.heap [] := va_S.rf
  have hW : hs_W D d L σ A s.heap := hW
  have hl := lv_entry ([.ref w, .int (nI 5)]) (n := 2) (Nat.le_of_ble_eq_true rfl)
  rw [lg_entry_eq]
  generalize (lg_sl ([.ref w, .int (nI 5)]) ++ List.replicate (2 - (lg_sl ([.ref w, .int (nI 5)])).length) Slot.unset).toArray = ls at hl ⊢
  have hl : lv_has ls 2 [(0, .ref w), (1, .int (nI 5))] := hl
  have h10 := hok.1
  have h8 := hok.2.1
  have h5 := hok.2.2.1
  have hd_ := hok.hd
  refine lv_iload_n hx hb dX4_many_0 rfl (lv_at hl 1 rfl) ?_
  refine lv_iconst (v := 0) hx hb dX4_many_1 (by decide) ?_
  refine lv_bipush (v := 14) hx hb dX4_many_2 (by decide) ?_
  refine hs_runv (As := [.int (nI 5), .int 0, .int 14]) ⟨hx, hb, hml, hown, hts⟩ (kX4_checkArgument l D d L σ A (nI 5) 0 14 (by decide +kernel) (by decide +kernel)) (va_cwS 3 hts gX4_many_X4_checkArgument rfl rfl rfl (by decide +kernel) ⟨Nat.le_of_ble_eq_true rfl, Nat.le_of_ble_eq_true rfl⟩) hK hE hW hS rfl hl.1 (Nat.le_of_ble_eq_true rfl) dX4_many_4 ⟨Nat.zero_le _, Nat.zero_le _⟩ rfl (fun τ_ H locs hp hW hS => ?_)
  obtain rfl := hp
  refine lv_iload_n hx hb dX4_many_7 rfl (lv_at hl 1 rfl) ?_
  refine lv_tableIn (off := 114) (tgt := 122) hx hb dX4_many_8 (by decide +kernel) (by decide +kernel) (by decide +kernel) (by decide) ?_
  refine lv_aload_n hx hb dX4_many_122 rfl (lv_at hl 0 rfl) ?_
  refine va_get (D := D) (ci := cWx) (C := RX4) (T := TX4) (N := 2) (ws := [(w, .inr (cWx, [.ref (L 0 0), .ref (L2 0 0)]))]) (v := .ref (L 0 0)) hx hb hts (by decide +kernel) hown hK (wx_one hV hS hwA) 0 rfl rfl 0 (by decide) (hts (.fieldLink RX4 10 "Waxrow" "house" "LWaxrow$House;") (by decide +kernel)) (fun _ h9 => h9) rfl dX4_many_123 ?_
  refine lv_bipush (v := 6) hx hb dX4_many_126 (by decide) ?_
  refine lv_bipush (v := 6) hx hb dX4_many_128 (by decide) ?_
  refine hs_calli (As := [.int 6, .int 6]) ⟨hx, hb, hml, hown, hts⟩ (kX1_figuresIn l D d L σ A 6 6 F hok.hF hok.2.1 ) (cwV 2 hts gX4_many_X1_figuresIn rfl rfl rfl (by decide +kernel) ⟨Nat.le_of_ble_eq_true rfl, Nat.le_of_ble_eq_true rfl⟩) hK hE hW hS hs_ix0 (ci := cHo) (r := (RX1, TX1, 11)) rfl rfl rfl rfl hl.1 (Nat.le_of_ble_eq_true rfl) dX4_many_130 ⟨Nat.zero_le _, Nat.zero_le _⟩ rfl (fun r_ τ_ H locs hp hW hS => ?_)
  obtain ⟨rfl, rfl⟩ := hp
  exact W.iret (v := sp_figIn σ 6 6 F) hx hb hr (fun t ht hW9 => ⟨⟨(sp_figIn σ 6 6 F), σ, rfl, ⟨rfl, rfl⟩, ⟨by rw [ht]; exact hW, va_K.moved hW9.alike hK⟩⟩, hS.F ht⟩) hS.2.2 dX4_many_133
set_option maxHeartbeats 4000000 in
set_option maxRecDepth 100000 in
/-- many -/
theorem kX4_many_6 (l : Launch) (D : va_G) (d : hs_Dm) (L : hs_Lo) (σ : hs_St) (A : Nat → Prop) (w : Nat) (L2 : hs_Lo) (hwA : ¬ A w) (P F R : Nat) (hok : hs_ok P F R σ)  : wx_Mi l yX4_many wsX4_many ({ frames := 5, cells := 0, slots := 0, locals := 100 }) D d w L L2 σ A [.ref w, .int (nI 6)] (fun r τ => sp_many σ P F 6 = r ∧ σ = τ) := by
  refine Met.ofW (cc := cX4_many) (maxL := 2) (ret := (some .int)) (by decide) rfl ?_
  intro p e s m args below meth c s₁ B hml hv
  obtain ⟨rfl, ⟨⟨hW, hK⟩, hX⟩, hV⟩ := hv
  have hE := hX.1
  have hx := B.exec
  have hb := B.bytes
  have hr := B.returns
  have hts := atoms_spec (ws := wsX4_many) B.pre
  have hown : s.vm.findClass RX4 = some m.cls := findClass_of_methodNamed B.named
  have hlocks := B.notSynchronized
  have hS : va_S A s.heap s.heap [] := va_S.rf
  have hW : hs_W D d L σ A s.heap := hW
  have hl := lv_entry ([.ref w, .int (nI 6)]) (n := 2) (Nat.le_of_ble_eq_true rfl)
  rw [lg_entry_eq]
  generalize (lg_sl ([.ref w, .int (nI 6)]) ++ List.replicate (2 - (lg_sl ([.ref w, .int (nI 6)])).length) Slot.unset).toArray = ls at hl ⊢
  have hl : lv_has ls 2 [(0, .ref w), (1, .int (nI 6))] := hl
  have h10 := hok.1
  have h8 := hok.2.1
  have h5 := hok.2.2.1
  have hd_ := hok.hd
  refine lv_iload_n hx hb dX4_many_0 rfl (lv_at hl 1 rfl) ?_
  refine lv_iconst (v := 0) hx hb dX4_many_1 (by decide) ?_
  refine lv_bipush (v := 14) hx hb dX4_many_2 (by decide) ?_
  refine hs_runv (As := [.int (nI 6), .int 0, .int 14]) ⟨hx, hb, hml, hown, hts⟩ (kX4_checkArgument l D d L σ A (nI 6) 0 14 (by decide +kernel) (by decide +kernel)) (va_cwS 3 hts gX4_many_X4_checkArgument rfl rfl rfl (by decide +kernel) ⟨Nat.le_of_ble_eq_true rfl, Nat.le_of_ble_eq_true rfl⟩) hK hE hW hS rfl hl.1 (Nat.le_of_ble_eq_true rfl) dX4_many_4 ⟨Nat.zero_le _, Nat.zero_le _⟩ rfl (fun τ_ H locs hp hW hS => ?_)
  obtain rfl := hp
  refine lv_iload_n hx hb dX4_many_7 rfl (lv_at hl 1 rfl) ?_
  refine lv_tableIn (off := 126) (tgt := 134) hx hb dX4_many_8 (by decide +kernel) (by decide +kernel) (by decide +kernel) (by decide) ?_
  refine lv_aload_n hx hb dX4_many_134 rfl (lv_at hl 0 rfl) ?_
  refine va_get (D := D) (ci := cWx) (C := RX4) (T := TX4) (N := 2) (ws := [(w, .inr (cWx, [.ref (L 0 0), .ref (L2 0 0)]))]) (v := .ref (L 0 0)) hx hb hts (by decide +kernel) hown hK (wx_one hV hS hwA) 0 rfl rfl 0 (by decide) (hts (.fieldLink RX4 10 "Waxrow" "house" "LWaxrow$House;") (by decide +kernel)) (fun _ h9 => h9) rfl dX4_many_135 ?_
  refine lv_bipush (v := 7) hx hb dX4_many_138 (by decide) ?_
  refine lv_bipush (v := 7) hx hb dX4_many_140 (by decide) ?_
  refine hs_calli (As := [.int 7, .int 7]) ⟨hx, hb, hml, hown, hts⟩ (kX1_figuresIn l D d L σ A 7 7 F hok.hF hok.2.1 ) (cwV 2 hts gX4_many_X1_figuresIn rfl rfl rfl (by decide +kernel) ⟨Nat.le_of_ble_eq_true rfl, Nat.le_of_ble_eq_true rfl⟩) hK hE hW hS hs_ix0 (ci := cHo) (r := (RX1, TX1, 11)) rfl rfl rfl rfl hl.1 (Nat.le_of_ble_eq_true rfl) dX4_many_142 ⟨Nat.zero_le _, Nat.zero_le _⟩ rfl (fun r_ τ_ H locs hp hW hS => ?_)
  obtain ⟨rfl, rfl⟩ := hp
  exact W.iret (v := sp_figIn σ 7 7 F) hx hb hr (fun t ht hW9 => ⟨⟨(sp_figIn σ 7 7 F), σ, rfl, ⟨rfl, rfl⟩, ⟨by rw [ht]; exact hW, va_K.moved hW9.alike hK⟩⟩, hS.F ht⟩) hS.2.2 dX4_many_145
set_option maxHeartbeats 4000000 in
set_option maxRecDepth 100000 in
/-- many -/
theorem kX4_many_7 (l : Launch) (D : va_G) (d : hs_Dm) (L : hs_Lo) (σ : hs_St) (A : Nat → Prop) (w : Nat) (L2 : hs_Lo) (hwA : ¬ A w) (P F R : Nat) (hok : hs_ok P F R σ)  : wx_Mi l yX4_many wsX4_many ({ frames := 5, cells := 0, slots := 0, locals := 100 }) D d w L L2 σ A [.ref w, .int (nI 7)] (fun r τ => sp_many σ P F 7 = r ∧ σ = τ) := by
  refine Met.ofW (cc := cX4_many) (maxL := 2) (ret := (some .int)) (by decide) rfl ?_
  intro p e s m args below meth c s₁ B hml hv
  obtain ⟨rfl, ⟨⟨hW, hK⟩, hX⟩, hV⟩ := hv
  have hE := hX.1
  have hx := B.exec
  have hb := B.bytes
  have hr := B.returns
  have hts := atoms_spec (ws := wsX4_many) B.pre
  have hown : s.vm.findClass RX4 = some m.cls := findClass_of_methodNamed B.named
  have hlocks := B.notSynchronized
  have hS : va_S A s.heap s.heap [] := va_S.rf
  have hW : hs_W D d L σ A s.heap := hW
  have hl := lv_entry ([.ref w, .int (nI 7)]) (n := 2) (Nat.le_of_ble_eq_true rfl)
  rw [lg_entry_eq]
  generalize (lg_sl ([.ref w, .int (nI 7)]) ++ List.replicate (2 - (lg_sl ([.ref w, .int (nI 7)])).length) Slot.unset).toArray = ls at hl ⊢
  have hl : lv_has ls 2 [(0, .ref w), (1, .int (nI 7))] := hl
  have h10 := hok.1
  have h8 := hok.2.1
  have h5 := hok.2.2.1
  have hd_ := hok.hd
  refine lv_iload_n hx hb dX4_many_0 rfl (lv_at hl 1 rfl) ?_
  refine lv_iconst (v := 0) hx hb dX4_many_1 (by decide) ?_
  refine lv_bipush (v := 14) hx hb dX4_many_2 (by decide) ?_
  refine hs_runv (As := [.int (nI 7), .int 0, .int 14]) ⟨hx, hb, hml, hown, hts⟩ (kX4_checkArgument l D d L σ A (nI 7) 0 14 (by decide +kernel) (by decide +kernel)) (va_cwS 3 hts gX4_many_X4_checkArgument rfl rfl rfl (by decide +kernel) ⟨Nat.le_of_ble_eq_true rfl, Nat.le_of_ble_eq_true rfl⟩) hK hE hW hS rfl hl.1 (Nat.le_of_ble_eq_true rfl) dX4_many_4 ⟨Nat.zero_le _, Nat.zero_le _⟩ rfl (fun τ_ H locs hp hW hS => ?_)
  obtain rfl := hp
  refine lv_iload_n hx hb dX4_many_7 rfl (lv_at hl 1 rfl) ?_
  refine lv_tableIn (off := 138) (tgt := 146) hx hb dX4_many_8 (by decide +kernel) (by decide +kernel) (by decide +kernel) (by decide) ?_
  refine lv_aload_n hx hb dX4_many_146 rfl (lv_at hl 0 rfl) ?_
  refine va_get (D := D) (ci := cWx) (C := RX4) (T := TX4) (N := 2) (ws := [(w, .inr (cWx, [.ref (L 0 0), .ref (L2 0 0)]))]) (v := .ref (L 0 0)) hx hb hts (by decide +kernel) hown hK (wx_one hV hS hwA) 0 rfl rfl 0 (by decide) (hts (.fieldLink RX4 10 "Waxrow" "house" "LWaxrow$House;") (by decide +kernel)) (fun _ h9 => h9) rfl dX4_many_147 ?_
  refine va_get (D := D) (ci := cHo) (C := RX1) (T := TX1) (N := 11) (ws := [(L 0 0, hs_ct d L σ 0 0)]) (v := .int (σ 0 0 5)) hx hb hts (by decide +kernel) hown hK (hW.one hs_ix0) 0 rfl rfl 5 (by decide) (hts (.fieldLink RX4 150 "Waxrow$House" "roomCount" "I") (by decide +kernel)) (fun _ h9 => h9) rfl dX4_many_150 ?_
  exact W.iret (v := σ 0 0 5) hx hb hr (fun t ht hW9 => ⟨⟨(σ 0 0 5), σ, rfl, ⟨rfl, rfl⟩, ⟨by rw [ht]; exact hW, va_K.moved hW9.alike hK⟩⟩, hS.F ht⟩) hS.2.2 dX4_many_153
set_option maxHeartbeats 4000000 in
set_option maxRecDepth 100000 in
/-- many -/
theorem kX4_many_8 (l : Launch) (D : va_G) (d : hs_Dm) (L : hs_Lo) (σ : hs_St) (A : Nat → Prop) (w : Nat) (L2 : hs_Lo) (hwA : ¬ A w) (P F R : Nat) (hok : hs_ok P F R σ)  : wx_Mi l yX4_many wsX4_many ({ frames := 5, cells := 0, slots := 0, locals := 100 }) D d w L L2 σ A [.ref w, .int (nI 8)] (fun r τ => sp_many σ P F 8 = r ∧ σ = τ) := by
  refine Met.ofW (cc := cX4_many) (maxL := 2) (ret := (some .int)) (by decide) rfl ?_
  intro p e s m args below meth c s₁ B hml hv
  obtain ⟨rfl, ⟨⟨hW, hK⟩, hX⟩, hV⟩ := hv
  have hE := hX.1
  have hx := B.exec
  have hb := B.bytes
  have hr := B.returns
  have hts := atoms_spec (ws := wsX4_many) B.pre
  have hown : s.vm.findClass RX4 = some m.cls := findClass_of_methodNamed B.named
  have hlocks := B.notSynchronized
  have hS : va_S A s.heap s.heap [] := va_S.rf
  have hW : hs_W D d L σ A s.heap := hW
  have hl := lv_entry ([.ref w, .int (nI 8)]) (n := 2) (Nat.le_of_ble_eq_true rfl)
  rw [lg_entry_eq]
  generalize (lg_sl ([.ref w, .int (nI 8)]) ++ List.replicate (2 - (lg_sl ([.ref w, .int (nI 8)])).length) Slot.unset).toArray = ls at hl ⊢
  have hl : lv_has ls 2 [(0, .ref w), (1, .int (nI 8))] := hl
  have h10 := hok.1
  have h8 := hok.2.1
  have h5 := hok.2.2.1
  have hd_ := hok.hd
  refine lv_iload_n hx hb dX4_many_0 rfl (lv_at hl 1 rfl) ?_
  refine lv_iconst (v := 0) hx hb dX4_many_1 (by decide) ?_
  refine lv_bipush (v := 14) hx hb dX4_many_2 (by decide) ?_
  refine hs_runv (As := [.int (nI 8), .int 0, .int 14]) ⟨hx, hb, hml, hown, hts⟩ (kX4_checkArgument l D d L σ A (nI 8) 0 14 (by decide +kernel) (by decide +kernel)) (va_cwS 3 hts gX4_many_X4_checkArgument rfl rfl rfl (by decide +kernel) ⟨Nat.le_of_ble_eq_true rfl, Nat.le_of_ble_eq_true rfl⟩) hK hE hW hS rfl hl.1 (Nat.le_of_ble_eq_true rfl) dX4_many_4 ⟨Nat.zero_le _, Nat.zero_le _⟩ rfl (fun τ_ H locs hp hW hS => ?_)
  obtain rfl := hp
  refine lv_iload_n hx hb dX4_many_7 rfl (lv_at hl 1 rfl) ?_
  refine lv_tableIn (off := 146) (tgt := 154) hx hb dX4_many_8 (by decide +kernel) (by decide +kernel) (by decide +kernel) (by decide) ?_
  refine lv_aload_n hx hb dX4_many_154 rfl (lv_at hl 0 rfl) ?_
  refine va_get (D := D) (ci := cWx) (C := RX4) (T := TX4) (N := 2) (ws := [(w, .inr (cWx, [.ref (L 0 0), .ref (L2 0 0)]))]) (v := .ref (L 0 0)) hx hb hts (by decide +kernel) hown hK (wx_one hV hS hwA) 0 rfl rfl 0 (by decide) (hts (.fieldLink RX4 10 "Waxrow" "house" "LWaxrow$House;") (by decide +kernel)) (fun _ h9 => h9) rfl dX4_many_155 ?_
  refine va_get (D := D) (ci := cHo) (C := RX1) (T := TX1) (N := 11) (ws := [(L 0 0, hs_ct d L σ 0 0)]) (v := .int (σ 0 0 7)) hx hb hts (by decide +kernel) hown hK (hW.one hs_ix0) 0 rfl rfl 7 (by decide) (hts (.fieldLink RX4 85 "Waxrow$House" "money" "I") (by decide +kernel)) (fun _ h9 => h9) rfl dX4_many_158 ?_
  exact W.iret (v := σ 0 0 7) hx hb hr (fun t ht hW9 => ⟨⟨(σ 0 0 7), σ, rfl, ⟨rfl, rfl⟩, ⟨by rw [ht]; exact hW, va_K.moved hW9.alike hK⟩⟩, hS.F ht⟩) hS.2.2 dX4_many_161
set_option maxHeartbeats 4000000 in
set_option maxRecDepth 100000 in
/-- many -/
theorem kX4_many_9 (l : Launch) (D : va_G) (d : hs_Dm) (L : hs_Lo) (σ : hs_St) (A : Nat → Prop) (w : Nat) (L2 : hs_Lo) (hwA : ¬ A w) (P F R : Nat) (hok : hs_ok P F R σ)  : wx_Mi l yX4_many wsX4_many ({ frames := 5, cells := 0, slots := 0, locals := 100 }) D d w L L2 σ A [.ref w, .int (nI 9)] (fun r τ => sp_many σ P F 9 = r ∧ σ = τ) := by
  refine Met.ofW (cc := cX4_many) (maxL := 2) (ret := (some .int)) (by decide) rfl ?_
  intro p e s m args below meth c s₁ B hml hv
  obtain ⟨rfl, ⟨⟨hW, hK⟩, hX⟩, hV⟩ := hv
  have hE := hX.1
  have hx := B.exec
  have hb := B.bytes
  have hr := B.returns
  have hts := atoms_spec (ws := wsX4_many) B.pre
  have hown : s.vm.findClass RX4 = some m.cls := findClass_of_methodNamed B.named
  have hlocks := B.notSynchronized
  have hS : va_S A s.heap s.heap [] := va_S.rf
  have hW : hs_W D d L σ A s.heap := hW
  have hl := lv_entry ([.ref w, .int (nI 9)]) (n := 2) (Nat.le_of_ble_eq_true rfl)
  rw [lg_entry_eq]
  generalize (lg_sl ([.ref w, .int (nI 9)]) ++ List.replicate (2 - (lg_sl ([.ref w, .int (nI 9)])).length) Slot.unset).toArray = ls at hl ⊢
  have hl : lv_has ls 2 [(0, .ref w), (1, .int (nI 9))] := hl
  have h10 := hok.1
  have h8 := hok.2.1
  have h5 := hok.2.2.1
  have hd_ := hok.hd
  refine lv_iload_n hx hb dX4_many_0 rfl (lv_at hl 1 rfl) ?_
  refine lv_iconst (v := 0) hx hb dX4_many_1 (by decide) ?_
  refine lv_bipush (v := 14) hx hb dX4_many_2 (by decide) ?_
  refine hs_runv (As := [.int (nI 9), .int 0, .int 14]) ⟨hx, hb, hml, hown, hts⟩ (kX4_checkArgument l D d L σ A (nI 9) 0 14 (by decide +kernel) (by decide +kernel)) (va_cwS 3 hts gX4_many_X4_checkArgument rfl rfl rfl (by decide +kernel) ⟨Nat.le_of_ble_eq_true rfl, Nat.le_of_ble_eq_true rfl⟩) hK hE hW hS rfl hl.1 (Nat.le_of_ble_eq_true rfl) dX4_many_4 ⟨Nat.zero_le _, Nat.zero_le _⟩ rfl (fun τ_ H locs hp hW hS => ?_)
  obtain rfl := hp
  refine lv_iload_n hx hb dX4_many_7 rfl (lv_at hl 1 rfl) ?_
  refine lv_tableIn (off := 154) (tgt := 162) hx hb dX4_many_8 (by decide +kernel) (by decide +kernel) (by decide +kernel) (by decide) ?_
  refine lv_aload_n hx hb dX4_many_162 rfl (lv_at hl 0 rfl) ?_
  refine va_get (D := D) (ci := cWx) (C := RX4) (T := TX4) (N := 2) (ws := [(w, .inr (cWx, [.ref (L 0 0), .ref (L2 0 0)]))]) (v := .ref (L 0 0)) hx hb hts (by decide +kernel) hown hK (wx_one hV hS hwA) 0 rfl rfl 0 (by decide) (hts (.fieldLink RX4 10 "Waxrow" "house" "LWaxrow$House;") (by decide +kernel)) (fun _ h9 => h9) rfl dX4_many_163 ?_
  refine va_get (D := D) (ci := cHo) (C := RX1) (T := TX1) (N := 11) (ws := [(L 0 0, hs_ct d L σ 0 0)]) (v := .int (σ 0 0 8)) hx hb hts (by decide +kernel) hown hK (hW.one hs_ix0) 0 rfl rfl 8 (by decide) (hts (.fieldLink RX4 134 "Waxrow$House" "wax" "I") (by decide +kernel)) (fun _ h9 => h9) rfl dX4_many_166 ?_
  exact W.iret (v := σ 0 0 8) hx hb hr (fun t ht hW9 => ⟨⟨(σ 0 0 8), σ, rfl, ⟨rfl, rfl⟩, ⟨by rw [ht]; exact hW, va_K.moved hW9.alike hK⟩⟩, hS.F ht⟩) hS.2.2 dX4_many_169
set_option maxHeartbeats 4000000 in
set_option maxRecDepth 100000 in
/-- many -/
theorem kX4_many_10 (l : Launch) (D : va_G) (d : hs_Dm) (L : hs_Lo) (σ : hs_St) (A : Nat → Prop) (w : Nat) (L2 : hs_Lo) (hwA : ¬ A w) (P F R : Nat) (hok : hs_ok P F R σ)  : wx_Mi l yX4_many wsX4_many ({ frames := 5, cells := 0, slots := 0, locals := 100 }) D d w L L2 σ A [.ref w, .int (nI 10)] (fun r τ => sp_many σ P F 10 = r ∧ σ = τ) := by
  refine Met.ofW (cc := cX4_many) (maxL := 2) (ret := (some .int)) (by decide) rfl ?_
  intro p e s m args below meth c s₁ B hml hv
  obtain ⟨rfl, ⟨⟨hW, hK⟩, hX⟩, hV⟩ := hv
  have hE := hX.1
  have hx := B.exec
  have hb := B.bytes
  have hr := B.returns
  have hts := atoms_spec (ws := wsX4_many) B.pre
  have hown : s.vm.findClass RX4 = some m.cls := findClass_of_methodNamed B.named
  have hlocks := B.notSynchronized
  have hS : va_S A s.heap s.heap [] := va_S.rf
  have hW : hs_W D d L σ A s.heap := hW
  have hl := lv_entry ([.ref w, .int (nI 10)]) (n := 2) (Nat.le_of_ble_eq_true rfl)
  rw [lg_entry_eq]
  generalize (lg_sl ([.ref w, .int (nI 10)]) ++ List.replicate (2 - (lg_sl ([.ref w, .int (nI 10)])).length) Slot.unset).toArray = ls at hl ⊢
  have hl : lv_has ls 2 [(0, .ref w), (1, .int (nI 10))] := hl
  have h10 := hok.1
  have h8 := hok.2.1
  have h5 := hok.2.2.1
  have hd_ := hok.hd
  refine lv_iload_n hx hb dX4_many_0 rfl (lv_at hl 1 rfl) ?_
  refine lv_iconst (v := 0) hx hb dX4_many_1 (by decide) ?_
  refine lv_bipush (v := 14) hx hb dX4_many_2 (by decide) ?_
  refine hs_runv (As := [.int (nI 10), .int 0, .int 14]) ⟨hx, hb, hml, hown, hts⟩ (kX4_checkArgument l D d L σ A (nI 10) 0 14 (by decide +kernel) (by decide +kernel)) (va_cwS 3 hts gX4_many_X4_checkArgument rfl rfl rfl (by decide +kernel) ⟨Nat.le_of_ble_eq_true rfl, Nat.le_of_ble_eq_true rfl⟩) hK hE hW hS rfl hl.1 (Nat.le_of_ble_eq_true rfl) dX4_many_4 ⟨Nat.zero_le _, Nat.zero_le _⟩ rfl (fun τ_ H locs hp hW hS => ?_)
  obtain rfl := hp
  refine lv_iload_n hx hb dX4_many_7 rfl (lv_at hl 1 rfl) ?_
  refine lv_tableIn (off := 162) (tgt := 170) hx hb dX4_many_8 (by decide +kernel) (by decide +kernel) (by decide +kernel) (by decide) ?_
  refine lv_aload_n hx hb dX4_many_170 rfl (lv_at hl 0 rfl) ?_
  refine va_get (D := D) (ci := cWx) (C := RX4) (T := TX4) (N := 2) (ws := [(w, .inr (cWx, [.ref (L 0 0), .ref (L2 0 0)]))]) (v := .ref (L 0 0)) hx hb hts (by decide +kernel) hown hK (wx_one hV hS hwA) 0 rfl rfl 0 (by decide) (hts (.fieldLink RX4 10 "Waxrow" "house" "LWaxrow$House;") (by decide +kernel)) (fun _ h9 => h9) rfl dX4_many_171 ?_
  refine hs_calli (As := []) ⟨hx, hb, hml, hown, hts⟩ (kX1_allDue l D d L σ A P hok.hP hok.1 ) (cwV 0 hts gX4_many_X1_allDue rfl rfl rfl (by decide +kernel) ⟨Nat.le_of_ble_eq_true rfl, Nat.le_of_ble_eq_true rfl⟩) hK hE hW hS hs_ix0 (ci := cHo) (r := (RX1, TX1, 11)) rfl rfl rfl rfl hl.1 (Nat.le_of_ble_eq_true rfl) dX4_many_174 ⟨Nat.zero_le _, Nat.zero_le _⟩ rfl (fun r_ τ_ H locs hp hW hS => ?_)
  obtain ⟨rfl, rfl⟩ := hp
  exact W.iret (v := sp_due σ P) hx hb hr (fun t ht hW9 => ⟨⟨(sp_due σ P), σ, rfl, ⟨rfl, rfl⟩, ⟨by rw [ht]; exact hW, va_K.moved hW9.alike hK⟩⟩, hS.F ht⟩) hS.2.2 dX4_many_177
set_option maxHeartbeats 4000000 in
set_option maxRecDepth 100000 in
/-- many -/
theorem kX4_many_11 (l : Launch) (D : va_G) (d : hs_Dm) (L : hs_Lo) (σ : hs_St) (A : Nat → Prop) (w : Nat) (L2 : hs_Lo) (hwA : ¬ A w) (P F R : Nat) (hok : hs_ok P F R σ)  : wx_Mi l yX4_many wsX4_many ({ frames := 5, cells := 0, slots := 0, locals := 100 }) D d w L L2 σ A [.ref w, .int (nI 11)] (fun r τ => sp_many σ P F 11 = r ∧ σ = τ) := by
  refine Met.ofW (cc := cX4_many) (maxL := 2) (ret := (some .int)) (by decide) rfl ?_
  intro p e s m args below meth c s₁ B hml hv
  obtain ⟨rfl, ⟨⟨hW, hK⟩, hX⟩, hV⟩ := hv
  have hE := hX.1
  have hx := B.exec
  have hb := B.bytes
  have hr := B.returns
  have hts := atoms_spec (ws := wsX4_many) B.pre
  have hown : s.vm.findClass RX4 = some m.cls := findClass_of_methodNamed B.named
  have hlocks := B.notSynchronized
  have hS : va_S A s.heap s.heap [] := va_S.rf
  have hW : hs_W D d L σ A s.heap := hW
  have hl := lv_entry ([.ref w, .int (nI 11)]) (n := 2) (Nat.le_of_ble_eq_true rfl)
  rw [lg_entry_eq]
  generalize (lg_sl ([.ref w, .int (nI 11)]) ++ List.replicate (2 - (lg_sl ([.ref w, .int (nI 11)])).length) Slot.unset).toArray = ls at hl ⊢
  have hl : lv_has ls 2 [(0, .ref w), (1, .int (nI 11))] := hl
  have h10 := hok.1
  have h8 := hok.2.1
  have h5 := hok.2.2.1
  have hd_ := hok.hd
  refine lv_iload_n hx hb dX4_many_0 rfl (lv_at hl 1 rfl) ?_
  refine lv_iconst (v := 0) hx hb dX4_many_1 (by decide) ?_
  refine lv_bipush (v := 14) hx hb dX4_many_2 (by decide) ?_
  refine hs_runv (As := [.int (nI 11), .int 0, .int 14]) ⟨hx, hb, hml, hown, hts⟩ (kX4_checkArgument l D d L σ A (nI 11) 0 14 (by decide +kernel) (by decide +kernel)) (va_cwS 3 hts gX4_many_X4_checkArgument rfl rfl rfl (by decide +kernel) ⟨Nat.le_of_ble_eq_true rfl, Nat.le_of_ble_eq_true rfl⟩) hK hE hW hS rfl hl.1 (Nat.le_of_ble_eq_true rfl) dX4_many_4 ⟨Nat.zero_le _, Nat.zero_le _⟩ rfl (fun τ_ H locs hp hW hS => ?_)
  obtain rfl := hp
  refine lv_iload_n hx hb dX4_many_7 rfl (lv_at hl 1 rfl) ?_
  refine lv_tableIn (off := 170) (tgt := 178) hx hb dX4_many_8 (by decide +kernel) (by decide +kernel) (by decide +kernel) (by decide) ?_
  refine lv_aload_n hx hb dX4_many_178 rfl (lv_at hl 0 rfl) ?_
  refine va_get (D := D) (ci := cWx) (C := RX4) (T := TX4) (N := 2) (ws := [(w, .inr (cWx, [.ref (L 0 0), .ref (L2 0 0)]))]) (v := .ref (L 0 0)) hx hb hts (by decide +kernel) hown hK (wx_one hV hS hwA) 0 rfl rfl 0 (by decide) (hts (.fieldLink RX4 10 "Waxrow" "house" "LWaxrow$House;") (by decide +kernel)) (fun _ h9 => h9) rfl dX4_many_179 ?_
  refine va_get (D := D) (ci := cHo) (C := RX1) (T := TX1) (N := 11) (ws := [(L 0 0, hs_ct d L σ 0 0)]) (v := .int (σ 0 0 10)) hx hb hts (by decide +kernel) hown hK (hW.one hs_ix0) 0 rfl rfl 10 (by decide) (hts (.fieldLink RX4 222 "Waxrow$House" "came" "I") (by decide +kernel)) (fun _ h9 => h9) rfl dX4_many_182 ?_
  exact W.iret (v := σ 0 0 10) hx hb hr (fun t ht hW9 => ⟨⟨(σ 0 0 10), σ, rfl, ⟨rfl, rfl⟩, ⟨by rw [ht]; exact hW, va_K.moved hW9.alike hK⟩⟩, hS.F ht⟩) hS.2.2 dX4_many_185
set_option maxHeartbeats 4000000 in
set_option maxRecDepth 100000 in
/-- many -/
theorem kX4_many_12 (l : Launch) (D : va_G) (d : hs_Dm) (L : hs_Lo) (σ : hs_St) (A : Nat → Prop) (w : Nat) (L2 : hs_Lo) (hwA : ¬ A w) (P F R : Nat) (hok : hs_ok P F R σ)  : wx_Mi l yX4_many wsX4_many ({ frames := 5, cells := 0, slots := 0, locals := 100 }) D d w L L2 σ A [.ref w, .int (nI 12)] (fun r τ => sp_many σ P F 12 = r ∧ σ = τ) := by
  refine Met.ofW (cc := cX4_many) (maxL := 2) (ret := (some .int)) (by decide) rfl ?_
  intro p e s m args below meth c s₁ B hml hv
  obtain ⟨rfl, ⟨⟨hW, hK⟩, hX⟩, hV⟩ := hv
  have hE := hX.1
  have hx := B.exec
  have hb := B.bytes
  have hr := B.returns
  have hts := atoms_spec (ws := wsX4_many) B.pre
  have hown : s.vm.findClass RX4 = some m.cls := findClass_of_methodNamed B.named
  have hlocks := B.notSynchronized
  have hS : va_S A s.heap s.heap [] := va_S.rf
  have hW : hs_W D d L σ A s.heap := hW
  have hl := lv_entry ([.ref w, .int (nI 12)]) (n := 2) (Nat.le_of_ble_eq_true rfl)
  rw [lg_entry_eq]
  generalize (lg_sl ([.ref w, .int (nI 12)]) ++ List.replicate (2 - (lg_sl ([.ref w, .int (nI 12)])).length) Slot.unset).toArray = ls at hl ⊢
  have hl : lv_has ls 2 [(0, .ref w), (1, .int (nI 12))] := hl
  have h10 := hok.1
  have h8 := hok.2.1
  have h5 := hok.2.2.1
  have hd_ := hok.hd
  refine lv_iload_n hx hb dX4_many_0 rfl (lv_at hl 1 rfl) ?_
  refine lv_iconst (v := 0) hx hb dX4_many_1 (by decide) ?_
  refine lv_bipush (v := 14) hx hb dX4_many_2 (by decide) ?_
  refine hs_runv (As := [.int (nI 12), .int 0, .int 14]) ⟨hx, hb, hml, hown, hts⟩ (kX4_checkArgument l D d L σ A (nI 12) 0 14 (by decide +kernel) (by decide +kernel)) (va_cwS 3 hts gX4_many_X4_checkArgument rfl rfl rfl (by decide +kernel) ⟨Nat.le_of_ble_eq_true rfl, Nat.le_of_ble_eq_true rfl⟩) hK hE hW hS rfl hl.1 (Nat.le_of_ble_eq_true rfl) dX4_many_4 ⟨Nat.zero_le _, Nat.zero_le _⟩ rfl (fun τ_ H locs hp hW hS => ?_)
  obtain rfl := hp
  refine lv_iload_n hx hb dX4_many_7 rfl (lv_at hl 1 rfl) ?_
  refine lv_tableIn (off := 178) (tgt := 186) hx hb dX4_many_8 (by decide +kernel) (by decide +kernel) (by decide +kernel) (by decide) ?_
  refine lv_aload_n hx hb dX4_many_186 rfl (lv_at hl 0 rfl) ?_
  refine va_get (D := D) (ci := cWx) (C := RX4) (T := TX4) (N := 2) (ws := [(w, .inr (cWx, [.ref (L 0 0), .ref (L2 0 0)]))]) (v := .ref (L 0 0)) hx hb hts (by decide +kernel) hown hK (wx_one hV hS hwA) 0 rfl rfl 0 (by decide) (hts (.fieldLink RX4 10 "Waxrow" "house" "LWaxrow$House;") (by decide +kernel)) (fun _ h9 => h9) rfl dX4_many_187 ?_
  refine hs_calli (As := []) ⟨hx, hb, hml, hown, hts⟩ (kX1_allHands l D d L σ A F hok.hF hok.2.1 ) (cwV 0 hts gX4_many_X1_allHands rfl rfl rfl (by decide +kernel) ⟨Nat.le_of_ble_eq_true rfl, Nat.le_of_ble_eq_true rfl⟩) hK hE hW hS hs_ix0 (ci := cHo) (r := (RX1, TX1, 11)) rfl rfl rfl rfl hl.1 (Nat.le_of_ble_eq_true rfl) dX4_many_190 ⟨Nat.zero_le _, Nat.zero_le _⟩ rfl (fun r_ τ_ H locs hp hW hS => ?_)
  obtain ⟨rfl, rfl⟩ := hp
  exact W.iret (v := sp_hands σ F) hx hb hr (fun t ht hW9 => ⟨⟨(sp_hands σ F), σ, rfl, ⟨rfl, rfl⟩, ⟨by rw [ht]; exact hW, va_K.moved hW9.alike hK⟩⟩, hS.F ht⟩) hS.2.2 dX4_many_193
set_option maxHeartbeats 4000000 in
set_option maxRecDepth 100000 in
/-- many -/
theorem kX4_many_13 (l : Launch) (D : va_G) (d : hs_Dm) (L : hs_Lo) (σ : hs_St) (A : Nat → Prop) (w : Nat) (L2 : hs_Lo) (hwA : ¬ A w) (P F R : Nat) (hok : hs_ok P F R σ)  : wx_Mi l yX4_many wsX4_many ({ frames := 5, cells := 0, slots := 0, locals := 100 }) D d w L L2 σ A [.ref w, .int (nI 13)] (fun r τ => sp_many σ P F 13 = r ∧ σ = τ) := by
  refine Met.ofW (cc := cX4_many) (maxL := 2) (ret := (some .int)) (by decide) rfl ?_
  intro p e s m args below meth c s₁ B hml hv
  obtain ⟨rfl, ⟨⟨hW, hK⟩, hX⟩, hV⟩ := hv
  have hE := hX.1
  have hx := B.exec
  have hb := B.bytes
  have hr := B.returns
  have hts := atoms_spec (ws := wsX4_many) B.pre
  have hown : s.vm.findClass RX4 = some m.cls := findClass_of_methodNamed B.named
  have hlocks := B.notSynchronized
  have hS : va_S A s.heap s.heap [] := va_S.rf
  have hW : hs_W D d L σ A s.heap := hW
  have hl := lv_entry ([.ref w, .int (nI 13)]) (n := 2) (Nat.le_of_ble_eq_true rfl)
  rw [lg_entry_eq]
  generalize (lg_sl ([.ref w, .int (nI 13)]) ++ List.replicate (2 - (lg_sl ([.ref w, .int (nI 13)])).length) Slot.unset).toArray = ls at hl ⊢
  have hl : lv_has ls 2 [(0, .ref w), (1, .int (nI 13))] := hl
  have h10 := hok.1
  have h8 := hok.2.1
  have h5 := hok.2.2.1
  have hd_ := hok.hd
  refine lv_iload_n hx hb dX4_many_0 rfl (lv_at hl 1 rfl) ?_
  refine lv_iconst (v := 0) hx hb dX4_many_1 (by decide) ?_
  refine lv_bipush (v := 14) hx hb dX4_many_2 (by decide) ?_
  refine hs_runv (As := [.int (nI 13), .int 0, .int 14]) ⟨hx, hb, hml, hown, hts⟩ (kX4_checkArgument l D d L σ A (nI 13) 0 14 (by decide +kernel) (by decide +kernel)) (va_cwS 3 hts gX4_many_X4_checkArgument rfl rfl rfl (by decide +kernel) ⟨Nat.le_of_ble_eq_true rfl, Nat.le_of_ble_eq_true rfl⟩) hK hE hW hS rfl hl.1 (Nat.le_of_ble_eq_true rfl) dX4_many_4 ⟨Nat.zero_le _, Nat.zero_le _⟩ rfl (fun τ_ H locs hp hW hS => ?_)
  obtain rfl := hp
  refine lv_iload_n hx hb dX4_many_7 rfl (lv_at hl 1 rfl) ?_
  refine lv_tableIn (off := 186) (tgt := 194) hx hb dX4_many_8 (by decide +kernel) (by decide +kernel) (by decide +kernel) (by decide) ?_
  refine lv_aload_n hx hb dX4_many_194 rfl (lv_at hl 0 rfl) ?_
  refine va_get (D := D) (ci := cWx) (C := RX4) (T := TX4) (N := 2) (ws := [(w, .inr (cWx, [.ref (L 0 0), .ref (L2 0 0)]))]) (v := .ref (L 0 0)) hx hb hts (by decide +kernel) hown hK (wx_one hV hS hwA) 0 rfl rfl 0 (by decide) (hts (.fieldLink RX4 10 "Waxrow" "house" "LWaxrow$House;") (by decide +kernel)) (fun _ h9 => h9) rfl dX4_many_195 ?_
  refine va_get (D := D) (ci := cHo) (C := RX1) (T := TX1) (N := 11) (ws := [(L 0 0, hs_ct d L σ 0 0)]) (v := .int (σ 0 0 9)) hx hb hts (by decide +kernel) hown hK (hW.one hs_ix0) 0 rfl rfl 9 (by decide) (hts (.fieldLink RX4 183 "Waxrow$House" "price" "I") (by decide +kernel)) (fun _ h9 => h9) rfl dX4_many_198 ?_
  exact W.iret (v := σ 0 0 9) hx hb hr (fun t ht hW9 => ⟨⟨(σ 0 0 9), σ, rfl, ⟨rfl, rfl⟩, ⟨by rw [ht]; exact hW, va_K.moved hW9.alike hK⟩⟩, hS.F ht⟩) hS.2.2 dX4_many_201
set_option maxHeartbeats 4000000 in
set_option maxRecDepth 100000 in
/-- many -/
theorem kX4_many_14 (l : Launch) (D : va_G) (d : hs_Dm) (L : hs_Lo) (σ : hs_St) (A : Nat → Prop) (w : Nat) (L2 : hs_Lo) (hwA : ¬ A w) (P F R : Nat) (hok : hs_ok P F R σ)  : wx_Mi l yX4_many wsX4_many ({ frames := 5, cells := 0, slots := 0, locals := 100 }) D d w L L2 σ A [.ref w, .int (nI 14)] (fun r τ => sp_many σ P F 14 = r ∧ σ = τ) := by
  refine Met.ofW (cc := cX4_many) (maxL := 2) (ret := (some .int)) (by decide) rfl ?_
  intro p e s m args below meth c s₁ B hml hv
  obtain ⟨rfl, ⟨⟨hW, hK⟩, hX⟩, hV⟩ := hv
  have hE := hX.1
  have hx := B.exec
  have hb := B.bytes
  have hr := B.returns
  have hts := atoms_spec (ws := wsX4_many) B.pre
  have hown : s.vm.findClass RX4 = some m.cls := findClass_of_methodNamed B.named
  have hlocks := B.notSynchronized
  have hS : va_S A s.heap s.heap [] := va_S.rf
  have hW : hs_W D d L σ A s.heap := hW
  have hl := lv_entry ([.ref w, .int (nI 14)]) (n := 2) (Nat.le_of_ble_eq_true rfl)
  rw [lg_entry_eq]
  generalize (lg_sl ([.ref w, .int (nI 14)]) ++ List.replicate (2 - (lg_sl ([.ref w, .int (nI 14)])).length) Slot.unset).toArray = ls at hl ⊢
  have hl : lv_has ls 2 [(0, .ref w), (1, .int (nI 14))] := hl
  have h10 := hok.1
  have h8 := hok.2.1
  have h5 := hok.2.2.1
  have hd_ := hok.hd
  refine lv_iload_n hx hb dX4_many_0 rfl (lv_at hl 1 rfl) ?_
  refine lv_iconst (v := 0) hx hb dX4_many_1 (by decide) ?_
  refine lv_bipush (v := 14) hx hb dX4_many_2 (by decide) ?_
  refine hs_runv (As := [.int (nI 14), .int 0, .int 14]) ⟨hx, hb, hml, hown, hts⟩ (kX4_checkArgument l D d L σ A (nI 14) 0 14 (by decide +kernel) (by decide +kernel)) (va_cwS 3 hts gX4_many_X4_checkArgument rfl rfl rfl (by decide +kernel) ⟨Nat.le_of_ble_eq_true rfl, Nat.le_of_ble_eq_true rfl⟩) hK hE hW hS rfl hl.1 (Nat.le_of_ble_eq_true rfl) dX4_many_4 ⟨Nat.zero_le _, Nat.zero_le _⟩ rfl (fun τ_ H locs hp hW hS => ?_)
  obtain rfl := hp
  refine lv_iload_n hx hb dX4_many_7 rfl (lv_at hl 1 rfl) ?_
  refine lv_tableOut (tgt := 202) hx hb dX4_many_8 (by decide +kernel) (by decide) ?_
  refine lv_aload_n hx hb dX4_many_202 rfl (lv_at hl 0 rfl) ?_
  refine va_get (D := D) (ci := cWx) (C := RX4) (T := TX4) (N := 2) (ws := [(w, .inr (cWx, [.ref (L 0 0), .ref (L2 0 0)]))]) (v := .ref (L 0 0)) hx hb hts (by decide +kernel) hown hK (wx_one hV hS hwA) 0 rfl rfl 0 (by decide) (hts (.fieldLink RX4 10 "Waxrow" "house" "LWaxrow$House;") (by decide +kernel)) (fun _ h9 => h9) rfl dX4_many_203 ?_
  refine lv_iconst (v := 0) hx hb dX4_many_206 (by decide) ?_
  refine lv_iconst (v := 4) hx hb dX4_many_207 (by decide) ?_
  refine hs_calli (As := [.int 0, .int 4]) ⟨hx, hb, hml, hown, hts⟩ (kX1_drawsIn l D d L σ A 0 4 F hok.hF hok.2.1  hok.hd) (cwV 2 hts gX4_many_X1_drawsIn rfl rfl rfl (by decide +kernel) ⟨Nat.le_of_ble_eq_true rfl, Nat.le_of_ble_eq_true rfl⟩) hK hE hW hS hs_ix0 (ci := cHo) (r := (RX1, TX1, 11)) rfl rfl rfl rfl hl.1 (Nat.le_of_ble_eq_true rfl) dX4_many_208 ⟨Nat.zero_le _, Nat.zero_le _⟩ rfl (fun r_ τ_ H locs hp hW hS => ?_)
  obtain ⟨rfl, rfl⟩ := hp
  exact W.iret (v := sp_draws σ 0 4 F) hx hb hr (fun t ht hW9 => ⟨⟨(sp_draws σ 0 4 F), σ, rfl, ⟨rfl, rfl⟩, ⟨by rw [ht]; exact hW, va_K.moved hW9.alike hK⟩⟩, hS.F ht⟩) hS.2.2 dX4_many_211
set_option maxHeartbeats 4000000 in
set_option maxRecDepth 100000 in
/-- ofPerson -/
theorem kX4_ofPerson_0 (l : Launch) (D : va_G) (d : hs_Dm) (L : hs_Lo) (σ : hs_St) (A : Nat → Prop) (w : Nat) (L2 : hs_Lo) (hwA : ¬ A w) (P F R : Nat) (hok : hs_ok P F R σ) (q : Nat) (hq : q < P) : wx_Mi l yX4_ofPerson wsX4_ofPerson ({ frames := 5, cells := 0, slots := 0, locals := 100 }) D d w L L2 σ A [.ref w, .int (nI q), .int (nI 0)] (fun r τ => sp_ofP σ F q 0 = r ∧ σ = τ) := by
  refine Met.ofW (cc := cX4_ofPerson) (maxL := 4) (ret := (some .int)) (by decide) rfl ?_
  intro p e s m args below meth c s₁ B hml hv
  obtain ⟨rfl, ⟨⟨hW, hK⟩, hX⟩, hV⟩ := hv
  have hE := hX.1
  have hx := B.exec
  have hb := B.bytes
  have hr := B.returns
  have hts := atoms_spec (ws := wsX4_ofPerson) B.pre
  have hown : s.vm.findClass RX4 = some m.cls := findClass_of_methodNamed B.named
  have hlocks := B.notSynchronized
  have hS : va_S A s.heap s.heap [] := va_S.rf
  have hW : hs_W D d L σ A s.heap := hW
  have hl := lv_entry ([.ref w, .int (nI q), .int (nI 0)]) (n := 4) (Nat.le_of_ble_eq_true rfl)
  rw [lg_entry_eq]
  generalize (lg_sl ([.ref w, .int (nI q), .int (nI 0)]) ++ List.replicate (4 - (lg_sl ([.ref w, .int (nI q), .int (nI 0)])).length) Slot.unset).toArray = ls at hl ⊢
  have hl : lv_has ls 4 [(0, .ref w), (1, .int (nI q)), (2, .int (nI 0))] := hl
  have h10 := hok.1
  have h8 := hok.2.1
  have h5 := hok.2.2.1
  have hd_ := hok.hd
  refine lv_aload_n hx hb dX4_ofPerson_0 rfl (lv_at hl 0 rfl) ?_
  refine va_get (D := D) (ci := cWx) (C := RX4) (T := TX4) (N := 2) (ws := [(w, .inr (cWx, [.ref (L 0 0), .ref (L2 0 0)]))]) (v := .ref (L 0 0)) hx hb hts (by decide +kernel) hown hK (wx_one hV hS hwA) 0 rfl rfl 0 (by decide) (hts (.fieldLink RX4 10 "Waxrow" "house" "LWaxrow$House;") (by decide +kernel)) (fun _ h9 => h9) rfl dX4_ofPerson_1 ?_
  refine lv_iload_n hx hb dX4_ofPerson_4 rfl (lv_at hl 1 rfl) ?_
  refine hs_callr (As := [.int (nI q)]) ⟨hx, hb, hml, hown, hts⟩ (kX1_personAt l D d L σ A q P hok.hP hq hok.1) (cwV 1 hts gX4_ofPerson_X1_personAt rfl rfl rfl (by decide +kernel) ⟨Nat.le_of_ble_eq_true rfl, Nat.le_of_ble_eq_true rfl⟩) hK hE hW hS hs_ix0 (ci := cHo) (r := (RX1, TX1, 11)) rfl rfl rfl rfl hl.1 (Nat.le_of_ble_eq_true rfl) dX4_ofPerson_5 ⟨Nat.zero_le _, Nat.zero_le _⟩ rfl (fun H locs hW hS => ?_)
  refine lv_astore_n (lv' := [(3, .ref (L 4 q)), (0, .ref w), (1, .int (nI q)), (2, .int (nI 0))]) hx hb dX4_ofPerson_8 rfl hl (by decide) rfl (fun ls hl => ?_)
  refine lv_iload_n hx hb dX4_ofPerson_9 rfl (lv_at hl 3 rfl) ?_
  refine lv_iconst (v := 0) hx hb dX4_ofPerson_10 (by decide) ?_
  refine lv_bipush (v := 10) hx hb dX4_ofPerson_11 (by decide) ?_
  refine hs_runv (As := [.int (nI 0), .int 0, .int 10]) ⟨hx, hb, hml, hown, hts⟩ (kX4_checkArgument l D d L σ A (nI 0) 0 10 (by decide +kernel) (by decide +kernel)) (va_cwS 3 hts gX4_ofPerson_X4_checkArgument rfl rfl rfl (by decide +kernel) ⟨Nat.le_of_ble_eq_true rfl, Nat.le_of_ble_eq_true rfl⟩) hK hE hW hS rfl hl.1 (Nat.le_of_ble_eq_true rfl) dX4_ofPerson_13 ⟨Nat.zero_le _, Nat.zero_le _⟩ rfl (fun τ_ H locs hp hW hS => ?_)
  obtain rfl := hp
  refine lv_iload_n hx hb dX4_ofPerson_16 rfl (lv_at hl 3 rfl) ?_
  refine lv_iconst (v := 3) hx hb dX4_ofPerson_17 (by decide) ?_
  refine lv_icmp_ge (tgt := 28) hx hb dX4_ofPerson_18 (by decide) (fun c_18 => ?_) (fun c_18 => ?_)
  · exact absurd c_18 (by decide +kernel)
  · refine lv_aload_n hx hb dX4_ofPerson_21 rfl (lv_at hl 0 rfl) ?_
    refine va_get (D := D) (ci := cPe) (C := RX2) (T := TX2) (N := 8) (ws := [(L 4 q, hs_ct d L σ 4 q)]) (v := .ref (L 5 q)) hx hb hts (by decide +kernel) hown hK (hW.one (hs_ix4 (show q < 10 by omega))) 0 rfl rfl 1 (by decide) (hts (.fieldLink RX4 53 "Waxrow$Person" "fame" "[I") (by decide +kernel)) (fun _ h9 => h9) rfl dX4_ofPerson_22 ?_
    refine lv_iload_n hx hb dX4_ofPerson_25 rfl (lv_at hl 3 rfl) ?_
    refine hs_iald (n := 3) (f := σ 5 q) hx hb hK hW 5 q (hs_ix5 (show q < 10 by omega)) rfl (vp_in_nI (show 0 < 3 by omega) (by decide)) dX4_ofPerson_26 ?_
    rw [show σ 5 q (nI 0 : Int32).toNatClampNeg = σ 5 q 0 from by simp [hs_sg, nI_clamp (show 0 < 2 ^ 31 by omega)]]
    exact W.iret (v := σ 5 q 0) hx hb hr (fun t ht hW9 => ⟨⟨(σ 5 q 0), σ, rfl, ⟨rfl, rfl⟩, ⟨by rw [ht]; exact hW, va_K.moved hW9.alike hK⟩⟩, hS.F ht⟩) hS.2.2 dX4_ofPerson_27
set_option maxHeartbeats 4000000 in
set_option maxRecDepth 100000 in
/-- ofPerson -/
theorem kX4_ofPerson_1 (l : Launch) (D : va_G) (d : hs_Dm) (L : hs_Lo) (σ : hs_St) (A : Nat → Prop) (w : Nat) (L2 : hs_Lo) (hwA : ¬ A w) (P F R : Nat) (hok : hs_ok P F R σ) (q : Nat) (hq : q < P) : wx_Mi l yX4_ofPerson wsX4_ofPerson ({ frames := 5, cells := 0, slots := 0, locals := 100 }) D d w L L2 σ A [.ref w, .int (nI q), .int (nI 1)] (fun r τ => sp_ofP σ F q 1 = r ∧ σ = τ) := by
  refine Met.ofW (cc := cX4_ofPerson) (maxL := 4) (ret := (some .int)) (by decide) rfl ?_
  intro p e s m args below meth c s₁ B hml hv
  obtain ⟨rfl, ⟨⟨hW, hK⟩, hX⟩, hV⟩ := hv
  have hE := hX.1
  have hx := B.exec
  have hb := B.bytes
  have hr := B.returns
  have hts := atoms_spec (ws := wsX4_ofPerson) B.pre
  have hown : s.vm.findClass RX4 = some m.cls := findClass_of_methodNamed B.named
  have hlocks := B.notSynchronized
  have hS : va_S A s.heap s.heap [] := va_S.rf
  have hW : hs_W D d L σ A s.heap := hW
  have hl := lv_entry ([.ref w, .int (nI q), .int (nI 1)]) (n := 4) (Nat.le_of_ble_eq_true rfl)
  rw [lg_entry_eq]
  generalize (lg_sl ([.ref w, .int (nI q), .int (nI 1)]) ++ List.replicate (4 - (lg_sl ([.ref w, .int (nI q), .int (nI 1)])).length) Slot.unset).toArray = ls at hl ⊢
  have hl : lv_has ls 4 [(0, .ref w), (1, .int (nI q)), (2, .int (nI 1))] := hl
  have h10 := hok.1
  have h8 := hok.2.1
  have h5 := hok.2.2.1
  have hd_ := hok.hd
  refine lv_aload_n hx hb dX4_ofPerson_0 rfl (lv_at hl 0 rfl) ?_
  refine va_get (D := D) (ci := cWx) (C := RX4) (T := TX4) (N := 2) (ws := [(w, .inr (cWx, [.ref (L 0 0), .ref (L2 0 0)]))]) (v := .ref (L 0 0)) hx hb hts (by decide +kernel) hown hK (wx_one hV hS hwA) 0 rfl rfl 0 (by decide) (hts (.fieldLink RX4 10 "Waxrow" "house" "LWaxrow$House;") (by decide +kernel)) (fun _ h9 => h9) rfl dX4_ofPerson_1 ?_
  refine lv_iload_n hx hb dX4_ofPerson_4 rfl (lv_at hl 1 rfl) ?_
  refine hs_callr (As := [.int (nI q)]) ⟨hx, hb, hml, hown, hts⟩ (kX1_personAt l D d L σ A q P hok.hP hq hok.1) (cwV 1 hts gX4_ofPerson_X1_personAt rfl rfl rfl (by decide +kernel) ⟨Nat.le_of_ble_eq_true rfl, Nat.le_of_ble_eq_true rfl⟩) hK hE hW hS hs_ix0 (ci := cHo) (r := (RX1, TX1, 11)) rfl rfl rfl rfl hl.1 (Nat.le_of_ble_eq_true rfl) dX4_ofPerson_5 ⟨Nat.zero_le _, Nat.zero_le _⟩ rfl (fun H locs hW hS => ?_)
  refine lv_astore_n (lv' := [(3, .ref (L 4 q)), (0, .ref w), (1, .int (nI q)), (2, .int (nI 1))]) hx hb dX4_ofPerson_8 rfl hl (by decide) rfl (fun ls hl => ?_)
  refine lv_iload_n hx hb dX4_ofPerson_9 rfl (lv_at hl 3 rfl) ?_
  refine lv_iconst (v := 0) hx hb dX4_ofPerson_10 (by decide) ?_
  refine lv_bipush (v := 10) hx hb dX4_ofPerson_11 (by decide) ?_
  refine hs_runv (As := [.int (nI 1), .int 0, .int 10]) ⟨hx, hb, hml, hown, hts⟩ (kX4_checkArgument l D d L σ A (nI 1) 0 10 (by decide +kernel) (by decide +kernel)) (va_cwS 3 hts gX4_ofPerson_X4_checkArgument rfl rfl rfl (by decide +kernel) ⟨Nat.le_of_ble_eq_true rfl, Nat.le_of_ble_eq_true rfl⟩) hK hE hW hS rfl hl.1 (Nat.le_of_ble_eq_true rfl) dX4_ofPerson_13 ⟨Nat.zero_le _, Nat.zero_le _⟩ rfl (fun τ_ H locs hp hW hS => ?_)
  obtain rfl := hp
  refine lv_iload_n hx hb dX4_ofPerson_16 rfl (lv_at hl 3 rfl) ?_
  refine lv_iconst (v := 3) hx hb dX4_ofPerson_17 (by decide) ?_
  refine lv_icmp_ge (tgt := 28) hx hb dX4_ofPerson_18 (by decide) (fun c_18 => ?_) (fun c_18 => ?_)
  · exact absurd c_18 (by decide +kernel)
  · refine lv_aload_n hx hb dX4_ofPerson_21 rfl (lv_at hl 0 rfl) ?_
    refine va_get (D := D) (ci := cPe) (C := RX2) (T := TX2) (N := 8) (ws := [(L 4 q, hs_ct d L σ 4 q)]) (v := .ref (L 5 q)) hx hb hts (by decide +kernel) hown hK (hW.one (hs_ix4 (show q < 10 by omega))) 0 rfl rfl 1 (by decide) (hts (.fieldLink RX4 53 "Waxrow$Person" "fame" "[I") (by decide +kernel)) (fun _ h9 => h9) rfl dX4_ofPerson_22 ?_
    refine lv_iload_n hx hb dX4_ofPerson_25 rfl (lv_at hl 3 rfl) ?_
    refine hs_iald (n := 3) (f := σ 5 q) hx hb hK hW 5 q (hs_ix5 (show q < 10 by omega)) rfl (vp_in_nI (show 1 < 3 by omega) (by decide)) dX4_ofPerson_26 ?_
    rw [show σ 5 q (nI 1 : Int32).toNatClampNeg = σ 5 q 1 from by simp [hs_sg, nI_clamp (show 1 < 2 ^ 31 by omega)]]
    exact W.iret (v := σ 5 q 1) hx hb hr (fun t ht hW9 => ⟨⟨(σ 5 q 1), σ, rfl, ⟨rfl, rfl⟩, ⟨by rw [ht]; exact hW, va_K.moved hW9.alike hK⟩⟩, hS.F ht⟩) hS.2.2 dX4_ofPerson_27
set_option maxHeartbeats 4000000 in
set_option maxRecDepth 100000 in
/-- ofPerson -/
theorem kX4_ofPerson_2 (l : Launch) (D : va_G) (d : hs_Dm) (L : hs_Lo) (σ : hs_St) (A : Nat → Prop) (w : Nat) (L2 : hs_Lo) (hwA : ¬ A w) (P F R : Nat) (hok : hs_ok P F R σ) (q : Nat) (hq : q < P) : wx_Mi l yX4_ofPerson wsX4_ofPerson ({ frames := 5, cells := 0, slots := 0, locals := 100 }) D d w L L2 σ A [.ref w, .int (nI q), .int (nI 2)] (fun r τ => sp_ofP σ F q 2 = r ∧ σ = τ) := by
  refine Met.ofW (cc := cX4_ofPerson) (maxL := 4) (ret := (some .int)) (by decide) rfl ?_
  intro p e s m args below meth c s₁ B hml hv
  obtain ⟨rfl, ⟨⟨hW, hK⟩, hX⟩, hV⟩ := hv
  have hE := hX.1
  have hx := B.exec
  have hb := B.bytes
  have hr := B.returns
  have hts := atoms_spec (ws := wsX4_ofPerson) B.pre
  have hown : s.vm.findClass RX4 = some m.cls := findClass_of_methodNamed B.named
  have hlocks := B.notSynchronized
  have hS : va_S A s.heap s.heap [] := va_S.rf
  have hW : hs_W D d L σ A s.heap := hW
  have hl := lv_entry ([.ref w, .int (nI q), .int (nI 2)]) (n := 4) (Nat.le_of_ble_eq_true rfl)
  rw [lg_entry_eq]
  generalize (lg_sl ([.ref w, .int (nI q), .int (nI 2)]) ++ List.replicate (4 - (lg_sl ([.ref w, .int (nI q), .int (nI 2)])).length) Slot.unset).toArray = ls at hl ⊢
  have hl : lv_has ls 4 [(0, .ref w), (1, .int (nI q)), (2, .int (nI 2))] := hl
  have h10 := hok.1
  have h8 := hok.2.1
  have h5 := hok.2.2.1
  have hd_ := hok.hd
  refine lv_aload_n hx hb dX4_ofPerson_0 rfl (lv_at hl 0 rfl) ?_
  refine va_get (D := D) (ci := cWx) (C := RX4) (T := TX4) (N := 2) (ws := [(w, .inr (cWx, [.ref (L 0 0), .ref (L2 0 0)]))]) (v := .ref (L 0 0)) hx hb hts (by decide +kernel) hown hK (wx_one hV hS hwA) 0 rfl rfl 0 (by decide) (hts (.fieldLink RX4 10 "Waxrow" "house" "LWaxrow$House;") (by decide +kernel)) (fun _ h9 => h9) rfl dX4_ofPerson_1 ?_
  refine lv_iload_n hx hb dX4_ofPerson_4 rfl (lv_at hl 1 rfl) ?_
  refine hs_callr (As := [.int (nI q)]) ⟨hx, hb, hml, hown, hts⟩ (kX1_personAt l D d L σ A q P hok.hP hq hok.1) (cwV 1 hts gX4_ofPerson_X1_personAt rfl rfl rfl (by decide +kernel) ⟨Nat.le_of_ble_eq_true rfl, Nat.le_of_ble_eq_true rfl⟩) hK hE hW hS hs_ix0 (ci := cHo) (r := (RX1, TX1, 11)) rfl rfl rfl rfl hl.1 (Nat.le_of_ble_eq_true rfl) dX4_ofPerson_5 ⟨Nat.zero_le _, Nat.zero_le _⟩ rfl (fun H locs hW hS => ?_)
  refine lv_astore_n (lv' := [(3, .ref (L 4 q)), (0, .ref w), (1, .int (nI q)), (2, .int (nI 2))]) hx hb dX4_ofPerson_8 rfl hl (by decide) rfl (fun ls hl => ?_)
  refine lv_iload_n hx hb dX4_ofPerson_9 rfl (lv_at hl 3 rfl) ?_
  refine lv_iconst (v := 0) hx hb dX4_ofPerson_10 (by decide) ?_
  refine lv_bipush (v := 10) hx hb dX4_ofPerson_11 (by decide) ?_
  refine hs_runv (As := [.int (nI 2), .int 0, .int 10]) ⟨hx, hb, hml, hown, hts⟩ (kX4_checkArgument l D d L σ A (nI 2) 0 10 (by decide +kernel) (by decide +kernel)) (va_cwS 3 hts gX4_ofPerson_X4_checkArgument rfl rfl rfl (by decide +kernel) ⟨Nat.le_of_ble_eq_true rfl, Nat.le_of_ble_eq_true rfl⟩) hK hE hW hS rfl hl.1 (Nat.le_of_ble_eq_true rfl) dX4_ofPerson_13 ⟨Nat.zero_le _, Nat.zero_le _⟩ rfl (fun τ_ H locs hp hW hS => ?_)
  obtain rfl := hp
  refine lv_iload_n hx hb dX4_ofPerson_16 rfl (lv_at hl 3 rfl) ?_
  refine lv_iconst (v := 3) hx hb dX4_ofPerson_17 (by decide) ?_
  refine lv_icmp_ge (tgt := 28) hx hb dX4_ofPerson_18 (by decide) (fun c_18 => ?_) (fun c_18 => ?_)
  · exact absurd c_18 (by decide +kernel)
  · refine lv_aload_n hx hb dX4_ofPerson_21 rfl (lv_at hl 0 rfl) ?_
    refine va_get (D := D) (ci := cPe) (C := RX2) (T := TX2) (N := 8) (ws := [(L 4 q, hs_ct d L σ 4 q)]) (v := .ref (L 5 q)) hx hb hts (by decide +kernel) hown hK (hW.one (hs_ix4 (show q < 10 by omega))) 0 rfl rfl 1 (by decide) (hts (.fieldLink RX4 53 "Waxrow$Person" "fame" "[I") (by decide +kernel)) (fun _ h9 => h9) rfl dX4_ofPerson_22 ?_
    refine lv_iload_n hx hb dX4_ofPerson_25 rfl (lv_at hl 3 rfl) ?_
    refine hs_iald (n := 3) (f := σ 5 q) hx hb hK hW 5 q (hs_ix5 (show q < 10 by omega)) rfl (vp_in_nI (show 2 < 3 by omega) (by decide)) dX4_ofPerson_26 ?_
    rw [show σ 5 q (nI 2 : Int32).toNatClampNeg = σ 5 q 2 from by simp [hs_sg, nI_clamp (show 2 < 2 ^ 31 by omega)]]
    exact W.iret (v := σ 5 q 2) hx hb hr (fun t ht hW9 => ⟨⟨(σ 5 q 2), σ, rfl, ⟨rfl, rfl⟩, ⟨by rw [ht]; exact hW, va_K.moved hW9.alike hK⟩⟩, hS.F ht⟩) hS.2.2 dX4_ofPerson_27
set_option maxHeartbeats 4000000 in
set_option maxRecDepth 100000 in
/-- ofPerson -/
theorem kX4_ofPerson_3 (l : Launch) (D : va_G) (d : hs_Dm) (L : hs_Lo) (σ : hs_St) (A : Nat → Prop) (w : Nat) (L2 : hs_Lo) (hwA : ¬ A w) (P F R : Nat) (hok : hs_ok P F R σ) (q : Nat) (hq : q < P) : wx_Mi l yX4_ofPerson wsX4_ofPerson ({ frames := 5, cells := 0, slots := 0, locals := 100 }) D d w L L2 σ A [.ref w, .int (nI q), .int (nI 3)] (fun r τ => sp_ofP σ F q 3 = r ∧ σ = τ) := by
  refine Met.ofW (cc := cX4_ofPerson) (maxL := 4) (ret := (some .int)) (by decide) rfl ?_
  intro p e s m args below meth c s₁ B hml hv
  obtain ⟨rfl, ⟨⟨hW, hK⟩, hX⟩, hV⟩ := hv
  have hE := hX.1
  have hx := B.exec
  have hb := B.bytes
  have hr := B.returns
  have hts := atoms_spec (ws := wsX4_ofPerson) B.pre
  have hown : s.vm.findClass RX4 = some m.cls := findClass_of_methodNamed B.named
  have hlocks := B.notSynchronized
  have hS : va_S A s.heap s.heap [] := va_S.rf
  have hW : hs_W D d L σ A s.heap := hW
  have hl := lv_entry ([.ref w, .int (nI q), .int (nI 3)]) (n := 4) (Nat.le_of_ble_eq_true rfl)
  rw [lg_entry_eq]
  generalize (lg_sl ([.ref w, .int (nI q), .int (nI 3)]) ++ List.replicate (4 - (lg_sl ([.ref w, .int (nI q), .int (nI 3)])).length) Slot.unset).toArray = ls at hl ⊢
  have hl : lv_has ls 4 [(0, .ref w), (1, .int (nI q)), (2, .int (nI 3))] := hl
  have h10 := hok.1
  have h8 := hok.2.1
  have h5 := hok.2.2.1
  have hd_ := hok.hd
  refine lv_aload_n hx hb dX4_ofPerson_0 rfl (lv_at hl 0 rfl) ?_
  refine va_get (D := D) (ci := cWx) (C := RX4) (T := TX4) (N := 2) (ws := [(w, .inr (cWx, [.ref (L 0 0), .ref (L2 0 0)]))]) (v := .ref (L 0 0)) hx hb hts (by decide +kernel) hown hK (wx_one hV hS hwA) 0 rfl rfl 0 (by decide) (hts (.fieldLink RX4 10 "Waxrow" "house" "LWaxrow$House;") (by decide +kernel)) (fun _ h9 => h9) rfl dX4_ofPerson_1 ?_
  refine lv_iload_n hx hb dX4_ofPerson_4 rfl (lv_at hl 1 rfl) ?_
  refine hs_callr (As := [.int (nI q)]) ⟨hx, hb, hml, hown, hts⟩ (kX1_personAt l D d L σ A q P hok.hP hq hok.1) (cwV 1 hts gX4_ofPerson_X1_personAt rfl rfl rfl (by decide +kernel) ⟨Nat.le_of_ble_eq_true rfl, Nat.le_of_ble_eq_true rfl⟩) hK hE hW hS hs_ix0 (ci := cHo) (r := (RX1, TX1, 11)) rfl rfl rfl rfl hl.1 (Nat.le_of_ble_eq_true rfl) dX4_ofPerson_5 ⟨Nat.zero_le _, Nat.zero_le _⟩ rfl (fun H locs hW hS => ?_)
  refine lv_astore_n (lv' := [(3, .ref (L 4 q)), (0, .ref w), (1, .int (nI q)), (2, .int (nI 3))]) hx hb dX4_ofPerson_8 rfl hl (by decide) rfl (fun ls hl => ?_)
  refine lv_iload_n hx hb dX4_ofPerson_9 rfl (lv_at hl 3 rfl) ?_
  refine lv_iconst (v := 0) hx hb dX4_ofPerson_10 (by decide) ?_
  refine lv_bipush (v := 10) hx hb dX4_ofPerson_11 (by decide) ?_
  refine hs_runv (As := [.int (nI 3), .int 0, .int 10]) ⟨hx, hb, hml, hown, hts⟩ (kX4_checkArgument l D d L σ A (nI 3) 0 10 (by decide +kernel) (by decide +kernel)) (va_cwS 3 hts gX4_ofPerson_X4_checkArgument rfl rfl rfl (by decide +kernel) ⟨Nat.le_of_ble_eq_true rfl, Nat.le_of_ble_eq_true rfl⟩) hK hE hW hS rfl hl.1 (Nat.le_of_ble_eq_true rfl) dX4_ofPerson_13 ⟨Nat.zero_le _, Nat.zero_le _⟩ rfl (fun τ_ H locs hp hW hS => ?_)
  obtain rfl := hp
  refine lv_iload_n hx hb dX4_ofPerson_16 rfl (lv_at hl 3 rfl) ?_
  refine lv_iconst (v := 3) hx hb dX4_ofPerson_17 (by decide) ?_
  refine lv_icmp_ge (tgt := 28) hx hb dX4_ofPerson_18 (by decide) (fun c_18 => ?_) (fun c_18 => ?_)
  · refine lv_iload_n hx hb dX4_ofPerson_28 rfl (lv_at hl 3 rfl) ?_
    refine lv_bipush (v := 6) hx hb dX4_ofPerson_29 (by decide) ?_
    refine lv_icmp_ge (tgt := 43) hx hb dX4_ofPerson_31 (by decide) (fun c_31 => ?_) (fun c_31 => ?_)
    · exact absurd c_31 (by decide +kernel)
    · refine lv_aload_n hx hb dX4_ofPerson_34 rfl (lv_at hl 0 rfl) ?_
      refine va_get (D := D) (ci := cPe) (C := RX2) (T := TX2) (N := 8) (ws := [(L 4 q, hs_ct d L σ 4 q)]) (v := .ref (L 6 q)) hx hb hts (by decide +kernel) hown hK (hW.one (hs_ix4 (show q < 10 by omega))) 0 rfl rfl 2 (by decide) (hts (.fieldLink RX4 43 "Waxrow$Person" "trend" "[I") (by decide +kernel)) (fun _ h9 => h9) rfl dX4_ofPerson_35 ?_
      refine lv_iload_n hx hb dX4_ofPerson_38 rfl (lv_at hl 3 rfl) ?_
      refine lv_iconst (v := 3) hx hb dX4_ofPerson_39 (by decide) ?_
      refine lv_isub hx hb dX4_ofPerson_40 ?_
      refine hs_iald (n := 3) (f := σ 6 q) hx hb hK hW 6 q (hs_ix6 (show q < 10 by omega)) rfl (show ¬ (((nI 3) - 3 : Int32) < 0 ∨ 3 ≤ ((nI 3) - 3 : Int32).toNatClampNeg) by decide +kernel) dX4_ofPerson_41 ?_
      rw [show σ 6 q ((nI 3) - 3 : Int32).toNatClampNeg = σ 6 q 0 from congrArg (σ 6 q) (show ((nI 3) - 3 : Int32).toNatClampNeg = 0 from by decide +kernel)]
      exact W.iret (v := σ 6 q 0) hx hb hr (fun t ht hW9 => ⟨⟨(σ 6 q 0), σ, rfl, ⟨rfl, rfl⟩, ⟨by rw [ht]; exact hW, va_K.moved hW9.alike hK⟩⟩, hS.F ht⟩) hS.2.2 dX4_ofPerson_42
  · exact absurd (by decide +kernel) c_18
set_option maxHeartbeats 4000000 in
set_option maxRecDepth 100000 in
/-- ofPerson -/
theorem kX4_ofPerson_4 (l : Launch) (D : va_G) (d : hs_Dm) (L : hs_Lo) (σ : hs_St) (A : Nat → Prop) (w : Nat) (L2 : hs_Lo) (hwA : ¬ A w) (P F R : Nat) (hok : hs_ok P F R σ) (q : Nat) (hq : q < P) : wx_Mi l yX4_ofPerson wsX4_ofPerson ({ frames := 5, cells := 0, slots := 0, locals := 100 }) D d w L L2 σ A [.ref w, .int (nI q), .int (nI 4)] (fun r τ => sp_ofP σ F q 4 = r ∧ σ = τ) := by
  refine Met.ofW (cc := cX4_ofPerson) (maxL := 4) (ret := (some .int)) (by decide) rfl ?_
  intro p e s m args below meth c s₁ B hml hv
  obtain ⟨rfl, ⟨⟨hW, hK⟩, hX⟩, hV⟩ := hv
  have hE := hX.1
  have hx := B.exec
  have hb := B.bytes
  have hr := B.returns
  have hts := atoms_spec (ws := wsX4_ofPerson) B.pre
  have hown : s.vm.findClass RX4 = some m.cls := findClass_of_methodNamed B.named
  have hlocks := B.notSynchronized
  have hS : va_S A s.heap s.heap [] := va_S.rf
  have hW : hs_W D d L σ A s.heap := hW
  have hl := lv_entry ([.ref w, .int (nI q), .int (nI 4)]) (n := 4) (Nat.le_of_ble_eq_true rfl)
  rw [lg_entry_eq]
  generalize (lg_sl ([.ref w, .int (nI q), .int (nI 4)]) ++ List.replicate (4 - (lg_sl ([.ref w, .int (nI q), .int (nI 4)])).length) Slot.unset).toArray = ls at hl ⊢
  have hl : lv_has ls 4 [(0, .ref w), (1, .int (nI q)), (2, .int (nI 4))] := hl
  have h10 := hok.1
  have h8 := hok.2.1
  have h5 := hok.2.2.1
  have hd_ := hok.hd
  refine lv_aload_n hx hb dX4_ofPerson_0 rfl (lv_at hl 0 rfl) ?_
  refine va_get (D := D) (ci := cWx) (C := RX4) (T := TX4) (N := 2) (ws := [(w, .inr (cWx, [.ref (L 0 0), .ref (L2 0 0)]))]) (v := .ref (L 0 0)) hx hb hts (by decide +kernel) hown hK (wx_one hV hS hwA) 0 rfl rfl 0 (by decide) (hts (.fieldLink RX4 10 "Waxrow" "house" "LWaxrow$House;") (by decide +kernel)) (fun _ h9 => h9) rfl dX4_ofPerson_1 ?_
  refine lv_iload_n hx hb dX4_ofPerson_4 rfl (lv_at hl 1 rfl) ?_
  refine hs_callr (As := [.int (nI q)]) ⟨hx, hb, hml, hown, hts⟩ (kX1_personAt l D d L σ A q P hok.hP hq hok.1) (cwV 1 hts gX4_ofPerson_X1_personAt rfl rfl rfl (by decide +kernel) ⟨Nat.le_of_ble_eq_true rfl, Nat.le_of_ble_eq_true rfl⟩) hK hE hW hS hs_ix0 (ci := cHo) (r := (RX1, TX1, 11)) rfl rfl rfl rfl hl.1 (Nat.le_of_ble_eq_true rfl) dX4_ofPerson_5 ⟨Nat.zero_le _, Nat.zero_le _⟩ rfl (fun H locs hW hS => ?_)
  refine lv_astore_n (lv' := [(3, .ref (L 4 q)), (0, .ref w), (1, .int (nI q)), (2, .int (nI 4))]) hx hb dX4_ofPerson_8 rfl hl (by decide) rfl (fun ls hl => ?_)
  refine lv_iload_n hx hb dX4_ofPerson_9 rfl (lv_at hl 3 rfl) ?_
  refine lv_iconst (v := 0) hx hb dX4_ofPerson_10 (by decide) ?_
  refine lv_bipush (v := 10) hx hb dX4_ofPerson_11 (by decide) ?_
  refine hs_runv (As := [.int (nI 4), .int 0, .int 10]) ⟨hx, hb, hml, hown, hts⟩ (kX4_checkArgument l D d L σ A (nI 4) 0 10 (by decide +kernel) (by decide +kernel)) (va_cwS 3 hts gX4_ofPerson_X4_checkArgument rfl rfl rfl (by decide +kernel) ⟨Nat.le_of_ble_eq_true rfl, Nat.le_of_ble_eq_true rfl⟩) hK hE hW hS rfl hl.1 (Nat.le_of_ble_eq_true rfl) dX4_ofPerson_13 ⟨Nat.zero_le _, Nat.zero_le _⟩ rfl (fun τ_ H locs hp hW hS => ?_)
  obtain rfl := hp
  refine lv_iload_n hx hb dX4_ofPerson_16 rfl (lv_at hl 3 rfl) ?_
  refine lv_iconst (v := 3) hx hb dX4_ofPerson_17 (by decide) ?_
  refine lv_icmp_ge (tgt := 28) hx hb dX4_ofPerson_18 (by decide) (fun c_18 => ?_) (fun c_18 => ?_)
  · refine lv_iload_n hx hb dX4_ofPerson_28 rfl (lv_at hl 3 rfl) ?_
    refine lv_bipush (v := 6) hx hb dX4_ofPerson_29 (by decide) ?_
    refine lv_icmp_ge (tgt := 43) hx hb dX4_ofPerson_31 (by decide) (fun c_31 => ?_) (fun c_31 => ?_)
    · exact absurd c_31 (by decide +kernel)
    · refine lv_aload_n hx hb dX4_ofPerson_34 rfl (lv_at hl 0 rfl) ?_
      refine va_get (D := D) (ci := cPe) (C := RX2) (T := TX2) (N := 8) (ws := [(L 4 q, hs_ct d L σ 4 q)]) (v := .ref (L 6 q)) hx hb hts (by decide +kernel) hown hK (hW.one (hs_ix4 (show q < 10 by omega))) 0 rfl rfl 2 (by decide) (hts (.fieldLink RX4 43 "Waxrow$Person" "trend" "[I") (by decide +kernel)) (fun _ h9 => h9) rfl dX4_ofPerson_35 ?_
      refine lv_iload_n hx hb dX4_ofPerson_38 rfl (lv_at hl 3 rfl) ?_
      refine lv_iconst (v := 3) hx hb dX4_ofPerson_39 (by decide) ?_
      refine lv_isub hx hb dX4_ofPerson_40 ?_
      refine hs_iald (n := 3) (f := σ 6 q) hx hb hK hW 6 q (hs_ix6 (show q < 10 by omega)) rfl (show ¬ (((nI 4) - 3 : Int32) < 0 ∨ 3 ≤ ((nI 4) - 3 : Int32).toNatClampNeg) by decide +kernel) dX4_ofPerson_41 ?_
      rw [show σ 6 q ((nI 4) - 3 : Int32).toNatClampNeg = σ 6 q 1 from congrArg (σ 6 q) (show ((nI 4) - 3 : Int32).toNatClampNeg = 1 from by decide +kernel)]
      exact W.iret (v := σ 6 q 1) hx hb hr (fun t ht hW9 => ⟨⟨(σ 6 q 1), σ, rfl, ⟨rfl, rfl⟩, ⟨by rw [ht]; exact hW, va_K.moved hW9.alike hK⟩⟩, hS.F ht⟩) hS.2.2 dX4_ofPerson_42
  · exact absurd (by decide +kernel) c_18
set_option maxHeartbeats 4000000 in
set_option maxRecDepth 100000 in
/-- ofPerson -/
theorem kX4_ofPerson_5 (l : Launch) (D : va_G) (d : hs_Dm) (L : hs_Lo) (σ : hs_St) (A : Nat → Prop) (w : Nat) (L2 : hs_Lo) (hwA : ¬ A w) (P F R : Nat) (hok : hs_ok P F R σ) (q : Nat) (hq : q < P) : wx_Mi l yX4_ofPerson wsX4_ofPerson ({ frames := 5, cells := 0, slots := 0, locals := 100 }) D d w L L2 σ A [.ref w, .int (nI q), .int (nI 5)] (fun r τ => sp_ofP σ F q 5 = r ∧ σ = τ) := by
  refine Met.ofW (cc := cX4_ofPerson) (maxL := 4) (ret := (some .int)) (by decide) rfl ?_
  intro p e s m args below meth c s₁ B hml hv
  obtain ⟨rfl, ⟨⟨hW, hK⟩, hX⟩, hV⟩ := hv
  have hE := hX.1
  have hx := B.exec
  have hb := B.bytes
  have hr := B.returns
  have hts := atoms_spec (ws := wsX4_ofPerson) B.pre
  have hown : s.vm.findClass RX4 = some m.cls := findClass_of_methodNamed B.named
  have hlocks := B.notSynchronized
  have hS : va_S A s.heap s.heap [] := va_S.rf
  have hW : hs_W D d L σ A s.heap := hW
  have hl := lv_entry ([.ref w, .int (nI q), .int (nI 5)]) (n := 4) (Nat.le_of_ble_eq_true rfl)
  rw [lg_entry_eq]
  generalize (lg_sl ([.ref w, .int (nI q), .int (nI 5)]) ++ List.replicate (4 - (lg_sl ([.ref w, .int (nI q), .int (nI 5)])).length) Slot.unset).toArray = ls at hl ⊢
  have hl : lv_has ls 4 [(0, .ref w), (1, .int (nI q)), (2, .int (nI 5))] := hl
  have h10 := hok.1
  have h8 := hok.2.1
  have h5 := hok.2.2.1
  have hd_ := hok.hd
  refine lv_aload_n hx hb dX4_ofPerson_0 rfl (lv_at hl 0 rfl) ?_
  refine va_get (D := D) (ci := cWx) (C := RX4) (T := TX4) (N := 2) (ws := [(w, .inr (cWx, [.ref (L 0 0), .ref (L2 0 0)]))]) (v := .ref (L 0 0)) hx hb hts (by decide +kernel) hown hK (wx_one hV hS hwA) 0 rfl rfl 0 (by decide) (hts (.fieldLink RX4 10 "Waxrow" "house" "LWaxrow$House;") (by decide +kernel)) (fun _ h9 => h9) rfl dX4_ofPerson_1 ?_
  refine lv_iload_n hx hb dX4_ofPerson_4 rfl (lv_at hl 1 rfl) ?_
  refine hs_callr (As := [.int (nI q)]) ⟨hx, hb, hml, hown, hts⟩ (kX1_personAt l D d L σ A q P hok.hP hq hok.1) (cwV 1 hts gX4_ofPerson_X1_personAt rfl rfl rfl (by decide +kernel) ⟨Nat.le_of_ble_eq_true rfl, Nat.le_of_ble_eq_true rfl⟩) hK hE hW hS hs_ix0 (ci := cHo) (r := (RX1, TX1, 11)) rfl rfl rfl rfl hl.1 (Nat.le_of_ble_eq_true rfl) dX4_ofPerson_5 ⟨Nat.zero_le _, Nat.zero_le _⟩ rfl (fun H locs hW hS => ?_)
  refine lv_astore_n (lv' := [(3, .ref (L 4 q)), (0, .ref w), (1, .int (nI q)), (2, .int (nI 5))]) hx hb dX4_ofPerson_8 rfl hl (by decide) rfl (fun ls hl => ?_)
  refine lv_iload_n hx hb dX4_ofPerson_9 rfl (lv_at hl 3 rfl) ?_
  refine lv_iconst (v := 0) hx hb dX4_ofPerson_10 (by decide) ?_
  refine lv_bipush (v := 10) hx hb dX4_ofPerson_11 (by decide) ?_
  refine hs_runv (As := [.int (nI 5), .int 0, .int 10]) ⟨hx, hb, hml, hown, hts⟩ (kX4_checkArgument l D d L σ A (nI 5) 0 10 (by decide +kernel) (by decide +kernel)) (va_cwS 3 hts gX4_ofPerson_X4_checkArgument rfl rfl rfl (by decide +kernel) ⟨Nat.le_of_ble_eq_true rfl, Nat.le_of_ble_eq_true rfl⟩) hK hE hW hS rfl hl.1 (Nat.le_of_ble_eq_true rfl) dX4_ofPerson_13 ⟨Nat.zero_le _, Nat.zero_le _⟩ rfl (fun τ_ H locs hp hW hS => ?_)
  obtain rfl := hp
  refine lv_iload_n hx hb dX4_ofPerson_16 rfl (lv_at hl 3 rfl) ?_
  refine lv_iconst (v := 3) hx hb dX4_ofPerson_17 (by decide) ?_
  refine lv_icmp_ge (tgt := 28) hx hb dX4_ofPerson_18 (by decide) (fun c_18 => ?_) (fun c_18 => ?_)
  · refine lv_iload_n hx hb dX4_ofPerson_28 rfl (lv_at hl 3 rfl) ?_
    refine lv_bipush (v := 6) hx hb dX4_ofPerson_29 (by decide) ?_
    refine lv_icmp_ge (tgt := 43) hx hb dX4_ofPerson_31 (by decide) (fun c_31 => ?_) (fun c_31 => ?_)
    · exact absurd c_31 (by decide +kernel)
    · refine lv_aload_n hx hb dX4_ofPerson_34 rfl (lv_at hl 0 rfl) ?_
      refine va_get (D := D) (ci := cPe) (C := RX2) (T := TX2) (N := 8) (ws := [(L 4 q, hs_ct d L σ 4 q)]) (v := .ref (L 6 q)) hx hb hts (by decide +kernel) hown hK (hW.one (hs_ix4 (show q < 10 by omega))) 0 rfl rfl 2 (by decide) (hts (.fieldLink RX4 43 "Waxrow$Person" "trend" "[I") (by decide +kernel)) (fun _ h9 => h9) rfl dX4_ofPerson_35 ?_
      refine lv_iload_n hx hb dX4_ofPerson_38 rfl (lv_at hl 3 rfl) ?_
      refine lv_iconst (v := 3) hx hb dX4_ofPerson_39 (by decide) ?_
      refine lv_isub hx hb dX4_ofPerson_40 ?_
      refine hs_iald (n := 3) (f := σ 6 q) hx hb hK hW 6 q (hs_ix6 (show q < 10 by omega)) rfl (show ¬ (((nI 5) - 3 : Int32) < 0 ∨ 3 ≤ ((nI 5) - 3 : Int32).toNatClampNeg) by decide +kernel) dX4_ofPerson_41 ?_
      rw [show σ 6 q ((nI 5) - 3 : Int32).toNatClampNeg = σ 6 q 2 from congrArg (σ 6 q) (show ((nI 5) - 3 : Int32).toNatClampNeg = 2 from by decide +kernel)]
      exact W.iret (v := σ 6 q 2) hx hb hr (fun t ht hW9 => ⟨⟨(σ 6 q 2), σ, rfl, ⟨rfl, rfl⟩, ⟨by rw [ht]; exact hW, va_K.moved hW9.alike hK⟩⟩, hS.F ht⟩) hS.2.2 dX4_ofPerson_42
  · exact absurd (by decide +kernel) c_18
set_option maxHeartbeats 4000000 in
set_option maxRecDepth 100000 in
/-- ofPerson -/
theorem kX4_ofPerson_6 (l : Launch) (D : va_G) (d : hs_Dm) (L : hs_Lo) (σ : hs_St) (A : Nat → Prop) (w : Nat) (L2 : hs_Lo) (hwA : ¬ A w) (P F R : Nat) (hok : hs_ok P F R σ) (q : Nat) (hq : q < P) : wx_Mi l yX4_ofPerson wsX4_ofPerson ({ frames := 5, cells := 0, slots := 0, locals := 100 }) D d w L L2 σ A [.ref w, .int (nI q), .int (nI 6)] (fun r τ => sp_ofP σ F q 6 = r ∧ σ = τ) := by
  refine Met.ofW (cc := cX4_ofPerson) (maxL := 4) (ret := (some .int)) (by decide) rfl ?_
  intro p e s m args below meth c s₁ B hml hv
  obtain ⟨rfl, ⟨⟨hW, hK⟩, hX⟩, hV⟩ := hv
  have hE := hX.1
  have hx := B.exec
  have hb := B.bytes
  have hr := B.returns
  have hts := atoms_spec (ws := wsX4_ofPerson) B.pre
  have hown : s.vm.findClass RX4 = some m.cls := findClass_of_methodNamed B.named
  have hlocks := B.notSynchronized
  have hS : va_S A s.heap s.heap [] := va_S.rf
  have hW : hs_W D d L σ A s.heap := hW
  have hl := lv_entry ([.ref w, .int (nI q), .int (nI 6)]) (n := 4) (Nat.le_of_ble_eq_true rfl)
  rw [lg_entry_eq]
  generalize (lg_sl ([.ref w, .int (nI q), .int (nI 6)]) ++ List.replicate (4 - (lg_sl ([.ref w, .int (nI q), .int (nI 6)])).length) Slot.unset).toArray = ls at hl ⊢
  have hl : lv_has ls 4 [(0, .ref w), (1, .int (nI q)), (2, .int (nI 6))] := hl
  have h10 := hok.1
  have h8 := hok.2.1
  have h5 := hok.2.2.1
  have hd_ := hok.hd
  refine lv_aload_n hx hb dX4_ofPerson_0 rfl (lv_at hl 0 rfl) ?_
  refine va_get (D := D) (ci := cWx) (C := RX4) (T := TX4) (N := 2) (ws := [(w, .inr (cWx, [.ref (L 0 0), .ref (L2 0 0)]))]) (v := .ref (L 0 0)) hx hb hts (by decide +kernel) hown hK (wx_one hV hS hwA) 0 rfl rfl 0 (by decide) (hts (.fieldLink RX4 10 "Waxrow" "house" "LWaxrow$House;") (by decide +kernel)) (fun _ h9 => h9) rfl dX4_ofPerson_1 ?_
  refine lv_iload_n hx hb dX4_ofPerson_4 rfl (lv_at hl 1 rfl) ?_
  refine hs_callr (As := [.int (nI q)]) ⟨hx, hb, hml, hown, hts⟩ (kX1_personAt l D d L σ A q P hok.hP hq hok.1) (cwV 1 hts gX4_ofPerson_X1_personAt rfl rfl rfl (by decide +kernel) ⟨Nat.le_of_ble_eq_true rfl, Nat.le_of_ble_eq_true rfl⟩) hK hE hW hS hs_ix0 (ci := cHo) (r := (RX1, TX1, 11)) rfl rfl rfl rfl hl.1 (Nat.le_of_ble_eq_true rfl) dX4_ofPerson_5 ⟨Nat.zero_le _, Nat.zero_le _⟩ rfl (fun H locs hW hS => ?_)
  refine lv_astore_n (lv' := [(3, .ref (L 4 q)), (0, .ref w), (1, .int (nI q)), (2, .int (nI 6))]) hx hb dX4_ofPerson_8 rfl hl (by decide) rfl (fun ls hl => ?_)
  refine lv_iload_n hx hb dX4_ofPerson_9 rfl (lv_at hl 3 rfl) ?_
  refine lv_iconst (v := 0) hx hb dX4_ofPerson_10 (by decide) ?_
  refine lv_bipush (v := 10) hx hb dX4_ofPerson_11 (by decide) ?_
  refine hs_runv (As := [.int (nI 6), .int 0, .int 10]) ⟨hx, hb, hml, hown, hts⟩ (kX4_checkArgument l D d L σ A (nI 6) 0 10 (by decide +kernel) (by decide +kernel)) (va_cwS 3 hts gX4_ofPerson_X4_checkArgument rfl rfl rfl (by decide +kernel) ⟨Nat.le_of_ble_eq_true rfl, Nat.le_of_ble_eq_true rfl⟩) hK hE hW hS rfl hl.1 (Nat.le_of_ble_eq_true rfl) dX4_ofPerson_13 ⟨Nat.zero_le _, Nat.zero_le _⟩ rfl (fun τ_ H locs hp hW hS => ?_)
  obtain rfl := hp
  refine lv_iload_n hx hb dX4_ofPerson_16 rfl (lv_at hl 3 rfl) ?_
  refine lv_iconst (v := 3) hx hb dX4_ofPerson_17 (by decide) ?_
  refine lv_icmp_ge (tgt := 28) hx hb dX4_ofPerson_18 (by decide) (fun c_18 => ?_) (fun c_18 => ?_)
  · refine lv_iload_n hx hb dX4_ofPerson_28 rfl (lv_at hl 3 rfl) ?_
    refine lv_bipush (v := 6) hx hb dX4_ofPerson_29 (by decide) ?_
    refine lv_icmp_ge (tgt := 43) hx hb dX4_ofPerson_31 (by decide) (fun c_31 => ?_) (fun c_31 => ?_)
    · refine lv_iload_n hx hb dX4_ofPerson_43 rfl (lv_at hl 3 rfl) ?_
      refine lv_tableIn (off := 32) (tgt := 76) hx hb dX4_ofPerson_44 (by decide +kernel) (by decide +kernel) (by decide +kernel) (by decide) ?_
      refine lv_aload_n hx hb dX4_ofPerson_76 rfl (lv_at hl 0 rfl) ?_
      refine va_get (D := D) (ci := cPe) (C := RX2) (T := TX2) (N := 8) (ws := [(L 4 q, hs_ct d L σ 4 q)]) (v := .int (σ 4 q 5)) hx hb hts (by decide +kernel) hown hK (hW.one (hs_ix4 (show q < 10 by omega))) 0 rfl rfl 5 (by decide) (hts (.fieldLink RX4 56 "Waxrow$Person" "consents" "Z") (by decide +kernel)) (fun _ h9 => h9) rfl dX4_ofPerson_77 ?_
      refine lv_if_eq (tgt := 87) hx hb dX4_ofPerson_80 (by decide) (fun c_80 => ?_) (fun c_80 => ?_)
      · refine lv_iconst (v := 0) hx hb dX4_ofPerson_87 (by decide) ?_
        exact W.iret (v := 0) hx hb hr (fun t ht hW9 => ⟨⟨0, σ, rfl, ⟨by simp only [sp_ofP, c_80, ↓reduceIte], rfl⟩, ⟨by rw [ht]; exact hW, va_K.moved hW9.alike hK⟩⟩, hS.F ht⟩) hS.2.2 dX4_ofPerson_88
      · refine lv_iconst (v := 1) hx hb dX4_ofPerson_83 (by decide) ?_
        refine lv_goto (tgt := 88) hx hb dX4_ofPerson_84 (by decide) ?_
        exact W.iret (v := 1) hx hb hr (fun t ht hW9 => ⟨⟨1, σ, rfl, ⟨by simp only [sp_ofP, c_80, ↓reduceIte], rfl⟩, ⟨by rw [ht]; exact hW, va_K.moved hW9.alike hK⟩⟩, hS.F ht⟩) hS.2.2 dX4_ofPerson_88
    · exact absurd (by decide +kernel) c_31
  · exact absurd (by decide +kernel) c_18
set_option maxHeartbeats 4000000 in
set_option maxRecDepth 100000 in
/-- ofPerson -/
theorem kX4_ofPerson_7 (l : Launch) (D : va_G) (d : hs_Dm) (L : hs_Lo) (σ : hs_St) (A : Nat → Prop) (w : Nat) (L2 : hs_Lo) (hwA : ¬ A w) (P F R : Nat) (hok : hs_ok P F R σ) (q : Nat) (hq : q < P) : wx_Mi l yX4_ofPerson wsX4_ofPerson ({ frames := 5, cells := 0, slots := 0, locals := 100 }) D d w L L2 σ A [.ref w, .int (nI q), .int (nI 7)] (fun r τ => sp_ofP σ F q 7 = r ∧ σ = τ) := by
  refine Met.ofW (cc := cX4_ofPerson) (maxL := 4) (ret := (some .int)) (by decide) rfl ?_
  intro p e s m args below meth c s₁ B hml hv
  obtain ⟨rfl, ⟨⟨hW, hK⟩, hX⟩, hV⟩ := hv
  have hE := hX.1
  have hx := B.exec
  have hb := B.bytes
  have hr := B.returns
  have hts := atoms_spec (ws := wsX4_ofPerson) B.pre
  have hown : s.vm.findClass RX4 = some m.cls := findClass_of_methodNamed B.named
  have hlocks := B.notSynchronized
  have hS : va_S A s.heap s.heap [] := va_S.rf
  have hW : hs_W D d L σ A s.heap := hW
  have hl := lv_entry ([.ref w, .int (nI q), .int (nI 7)]) (n := 4) (Nat.le_of_ble_eq_true rfl)
  rw [lg_entry_eq]
  generalize (lg_sl ([.ref w, .int (nI q), .int (nI 7)]) ++ List.replicate (4 - (lg_sl ([.ref w, .int (nI q), .int (nI 7)])).length) Slot.unset).toArray = ls at hl ⊢
  have hl : lv_has ls 4 [(0, .ref w), (1, .int (nI q)), (2, .int (nI 7))] := hl
  have h10 := hok.1
  have h8 := hok.2.1
  have h5 := hok.2.2.1
  have hd_ := hok.hd
  refine lv_aload_n hx hb dX4_ofPerson_0 rfl (lv_at hl 0 rfl) ?_
  refine va_get (D := D) (ci := cWx) (C := RX4) (T := TX4) (N := 2) (ws := [(w, .inr (cWx, [.ref (L 0 0), .ref (L2 0 0)]))]) (v := .ref (L 0 0)) hx hb hts (by decide +kernel) hown hK (wx_one hV hS hwA) 0 rfl rfl 0 (by decide) (hts (.fieldLink RX4 10 "Waxrow" "house" "LWaxrow$House;") (by decide +kernel)) (fun _ h9 => h9) rfl dX4_ofPerson_1 ?_
  refine lv_iload_n hx hb dX4_ofPerson_4 rfl (lv_at hl 1 rfl) ?_
  refine hs_callr (As := [.int (nI q)]) ⟨hx, hb, hml, hown, hts⟩ (kX1_personAt l D d L σ A q P hok.hP hq hok.1) (cwV 1 hts gX4_ofPerson_X1_personAt rfl rfl rfl (by decide +kernel) ⟨Nat.le_of_ble_eq_true rfl, Nat.le_of_ble_eq_true rfl⟩) hK hE hW hS hs_ix0 (ci := cHo) (r := (RX1, TX1, 11)) rfl rfl rfl rfl hl.1 (Nat.le_of_ble_eq_true rfl) dX4_ofPerson_5 ⟨Nat.zero_le _, Nat.zero_le _⟩ rfl (fun H locs hW hS => ?_)
  refine lv_astore_n (lv' := [(3, .ref (L 4 q)), (0, .ref w), (1, .int (nI q)), (2, .int (nI 7))]) hx hb dX4_ofPerson_8 rfl hl (by decide) rfl (fun ls hl => ?_)
  refine lv_iload_n hx hb dX4_ofPerson_9 rfl (lv_at hl 3 rfl) ?_
  refine lv_iconst (v := 0) hx hb dX4_ofPerson_10 (by decide) ?_
  refine lv_bipush (v := 10) hx hb dX4_ofPerson_11 (by decide) ?_
  refine hs_runv (As := [.int (nI 7), .int 0, .int 10]) ⟨hx, hb, hml, hown, hts⟩ (kX4_checkArgument l D d L σ A (nI 7) 0 10 (by decide +kernel) (by decide +kernel)) (va_cwS 3 hts gX4_ofPerson_X4_checkArgument rfl rfl rfl (by decide +kernel) ⟨Nat.le_of_ble_eq_true rfl, Nat.le_of_ble_eq_true rfl⟩) hK hE hW hS rfl hl.1 (Nat.le_of_ble_eq_true rfl) dX4_ofPerson_13 ⟨Nat.zero_le _, Nat.zero_le _⟩ rfl (fun τ_ H locs hp hW hS => ?_)
  obtain rfl := hp
  refine lv_iload_n hx hb dX4_ofPerson_16 rfl (lv_at hl 3 rfl) ?_
  refine lv_iconst (v := 3) hx hb dX4_ofPerson_17 (by decide) ?_
  refine lv_icmp_ge (tgt := 28) hx hb dX4_ofPerson_18 (by decide) (fun c_18 => ?_) (fun c_18 => ?_)
  · refine lv_iload_n hx hb dX4_ofPerson_28 rfl (lv_at hl 3 rfl) ?_
    refine lv_bipush (v := 6) hx hb dX4_ofPerson_29 (by decide) ?_
    refine lv_icmp_ge (tgt := 43) hx hb dX4_ofPerson_31 (by decide) (fun c_31 => ?_) (fun c_31 => ?_)
    · refine lv_iload_n hx hb dX4_ofPerson_43 rfl (lv_at hl 3 rfl) ?_
      refine lv_tableIn (off := 45) (tgt := 89) hx hb dX4_ofPerson_44 (by decide +kernel) (by decide +kernel) (by decide +kernel) (by decide) ?_
      refine lv_aload_n hx hb dX4_ofPerson_89 rfl (lv_at hl 0 rfl) ?_
      refine va_get (D := D) (ci := cPe) (C := RX2) (T := TX2) (N := 8) (ws := [(L 4 q, hs_ct d L σ 4 q)]) (v := .int (σ 4 q 6)) hx hb hts (by decide +kernel) hown hK (hW.one (hs_ix4 (show q < 10 by omega))) 0 rfl rfl 6 (by decide) (hts (.fieldLink RX4 82 "Waxrow$Person" "due" "I") (by decide +kernel)) (fun _ h9 => h9) rfl dX4_ofPerson_90 ?_
      exact W.iret (v := σ 4 q 6) hx hb hr (fun t ht hW9 => ⟨⟨(σ 4 q 6), σ, rfl, ⟨rfl, rfl⟩, ⟨by rw [ht]; exact hW, va_K.moved hW9.alike hK⟩⟩, hS.F ht⟩) hS.2.2 dX4_ofPerson_93
    · exact absurd (by decide +kernel) c_31
  · exact absurd (by decide +kernel) c_18
set_option maxHeartbeats 4000000 in
set_option maxRecDepth 100000 in
/-- ofPerson -/
theorem kX4_ofPerson_8 (l : Launch) (D : va_G) (d : hs_Dm) (L : hs_Lo) (σ : hs_St) (A : Nat → Prop) (w : Nat) (L2 : hs_Lo) (hwA : ¬ A w) (P F R : Nat) (hok : hs_ok P F R σ) (q : Nat) (hq : q < P) : wx_Mi l yX4_ofPerson wsX4_ofPerson ({ frames := 5, cells := 0, slots := 0, locals := 100 }) D d w L L2 σ A [.ref w, .int (nI q), .int (nI 8)] (fun r τ => sp_ofP σ F q 8 = r ∧ σ = τ) := by
  refine Met.ofW (cc := cX4_ofPerson) (maxL := 4) (ret := (some .int)) (by decide) rfl ?_
  intro p e s m args below meth c s₁ B hml hv
  obtain ⟨rfl, ⟨⟨hW, hK⟩, hX⟩, hV⟩ := hv
  have hE := hX.1
  have hx := B.exec
  have hb := B.bytes
  have hr := B.returns
  have hts := atoms_spec (ws := wsX4_ofPerson) B.pre
  have hown : s.vm.findClass RX4 = some m.cls := findClass_of_methodNamed B.named
  have hlocks := B.notSynchronized
  have hS : va_S A s.heap s.heap [] := va_S.rf
  have hW : hs_W D d L σ A s.heap := hW
  have hl := lv_entry ([.ref w, .int (nI q), .int (nI 8)]) (n := 4) (Nat.le_of_ble_eq_true rfl)
  rw [lg_entry_eq]
  generalize (lg_sl ([.ref w, .int (nI q), .int (nI 8)]) ++ List.replicate (4 - (lg_sl ([.ref w, .int (nI q), .int (nI 8)])).length) Slot.unset).toArray = ls at hl ⊢
  have hl : lv_has ls 4 [(0, .ref w), (1, .int (nI q)), (2, .int (nI 8))] := hl
  have h10 := hok.1
  have h8 := hok.2.1
  have h5 := hok.2.2.1
  have hd_ := hok.hd
  refine lv_aload_n hx hb dX4_ofPerson_0 rfl (lv_at hl 0 rfl) ?_
  refine va_get (D := D) (ci := cWx) (C := RX4) (T := TX4) (N := 2) (ws := [(w, .inr (cWx, [.ref (L 0 0), .ref (L2 0 0)]))]) (v := .ref (L 0 0)) hx hb hts (by decide +kernel) hown hK (wx_one hV hS hwA) 0 rfl rfl 0 (by decide) (hts (.fieldLink RX4 10 "Waxrow" "house" "LWaxrow$House;") (by decide +kernel)) (fun _ h9 => h9) rfl dX4_ofPerson_1 ?_
  refine lv_iload_n hx hb dX4_ofPerson_4 rfl (lv_at hl 1 rfl) ?_
  refine hs_callr (As := [.int (nI q)]) ⟨hx, hb, hml, hown, hts⟩ (kX1_personAt l D d L σ A q P hok.hP hq hok.1) (cwV 1 hts gX4_ofPerson_X1_personAt rfl rfl rfl (by decide +kernel) ⟨Nat.le_of_ble_eq_true rfl, Nat.le_of_ble_eq_true rfl⟩) hK hE hW hS hs_ix0 (ci := cHo) (r := (RX1, TX1, 11)) rfl rfl rfl rfl hl.1 (Nat.le_of_ble_eq_true rfl) dX4_ofPerson_5 ⟨Nat.zero_le _, Nat.zero_le _⟩ rfl (fun H locs hW hS => ?_)
  refine lv_astore_n (lv' := [(3, .ref (L 4 q)), (0, .ref w), (1, .int (nI q)), (2, .int (nI 8))]) hx hb dX4_ofPerson_8 rfl hl (by decide) rfl (fun ls hl => ?_)
  refine lv_iload_n hx hb dX4_ofPerson_9 rfl (lv_at hl 3 rfl) ?_
  refine lv_iconst (v := 0) hx hb dX4_ofPerson_10 (by decide) ?_
  refine lv_bipush (v := 10) hx hb dX4_ofPerson_11 (by decide) ?_
  refine hs_runv (As := [.int (nI 8), .int 0, .int 10]) ⟨hx, hb, hml, hown, hts⟩ (kX4_checkArgument l D d L σ A (nI 8) 0 10 (by decide +kernel) (by decide +kernel)) (va_cwS 3 hts gX4_ofPerson_X4_checkArgument rfl rfl rfl (by decide +kernel) ⟨Nat.le_of_ble_eq_true rfl, Nat.le_of_ble_eq_true rfl⟩) hK hE hW hS rfl hl.1 (Nat.le_of_ble_eq_true rfl) dX4_ofPerson_13 ⟨Nat.zero_le _, Nat.zero_le _⟩ rfl (fun τ_ H locs hp hW hS => ?_)
  obtain rfl := hp
  refine lv_iload_n hx hb dX4_ofPerson_16 rfl (lv_at hl 3 rfl) ?_
  refine lv_iconst (v := 3) hx hb dX4_ofPerson_17 (by decide) ?_
  refine lv_icmp_ge (tgt := 28) hx hb dX4_ofPerson_18 (by decide) (fun c_18 => ?_) (fun c_18 => ?_)
  · refine lv_iload_n hx hb dX4_ofPerson_28 rfl (lv_at hl 3 rfl) ?_
    refine lv_bipush (v := 6) hx hb dX4_ofPerson_29 (by decide) ?_
    refine lv_icmp_ge (tgt := 43) hx hb dX4_ofPerson_31 (by decide) (fun c_31 => ?_) (fun c_31 => ?_)
    · refine lv_iload_n hx hb dX4_ofPerson_43 rfl (lv_at hl 3 rfl) ?_
      refine lv_tableIn (off := 50) (tgt := 94) hx hb dX4_ofPerson_44 (by decide +kernel) (by decide +kernel) (by decide +kernel) (by decide) ?_
      refine lv_aload_n hx hb dX4_ofPerson_94 rfl (lv_at hl 0 rfl) ?_
      refine hs_calli (As := []) ⟨hx, hb, hml, hown, hts⟩ (kX2_doubt l D d L σ A q (show q < 10 by omega)) (cwV 0 hts gX4_ofPerson_X2_doubt rfl rfl rfl (by decide +kernel) ⟨Nat.le_of_ble_eq_true rfl, Nat.le_of_ble_eq_true rfl⟩) hK hE hW hS (hs_ix4 (show q < 10 by omega)) (ci := cPe) (r := (RX2, TX2, 8)) rfl rfl rfl rfl hl.1 (Nat.le_of_ble_eq_true rfl) dX4_ofPerson_95 ⟨Nat.zero_le _, Nat.zero_le _⟩ rfl (fun r_ τ_ H locs hp hW hS => ?_)
      obtain ⟨rfl, rfl⟩ := hp
      exact W.iret (v := sp_doubt σ q) hx hb hr (fun t ht hW9 => ⟨⟨(sp_doubt σ q), σ, rfl, ⟨rfl, rfl⟩, ⟨by rw [ht]; exact hW, va_K.moved hW9.alike hK⟩⟩, hS.F ht⟩) hS.2.2 dX4_ofPerson_98
    · exact absurd (by decide +kernel) c_31
  · exact absurd (by decide +kernel) c_18
set_option maxHeartbeats 4000000 in
set_option maxRecDepth 100000 in
/-- ofPerson -/
theorem kX4_ofPerson_9 (l : Launch) (D : va_G) (d : hs_Dm) (L : hs_Lo) (σ : hs_St) (A : Nat → Prop) (w : Nat) (L2 : hs_Lo) (hwA : ¬ A w) (P F R : Nat) (hok : hs_ok P F R σ) (q : Nat) (hq : q < P) : wx_Mi l yX4_ofPerson wsX4_ofPerson ({ frames := 5, cells := 0, slots := 0, locals := 100 }) D d w L L2 σ A [.ref w, .int (nI q), .int (nI 9)] (fun r τ => sp_ofP σ F q 9 = r ∧ σ = τ) := by
  refine Met.ofW (cc := cX4_ofPerson) (maxL := 4) (ret := (some .int)) (by decide) rfl ?_
  intro p e s m args below meth c s₁ B hml hv
  obtain ⟨rfl, ⟨⟨hW, hK⟩, hX⟩, hV⟩ := hv
  have hE := hX.1
  have hx := B.exec
  have hb := B.bytes
  have hr := B.returns
  have hts := atoms_spec (ws := wsX4_ofPerson) B.pre
  have hown : s.vm.findClass RX4 = some m.cls := findClass_of_methodNamed B.named
  have hlocks := B.notSynchronized
  have hS : va_S A s.heap s.heap [] := va_S.rf
  have hW : hs_W D d L σ A s.heap := hW
  have hl := lv_entry ([.ref w, .int (nI q), .int (nI 9)]) (n := 4) (Nat.le_of_ble_eq_true rfl)
  rw [lg_entry_eq]
  generalize (lg_sl ([.ref w, .int (nI q), .int (nI 9)]) ++ List.replicate (4 - (lg_sl ([.ref w, .int (nI q), .int (nI 9)])).length) Slot.unset).toArray = ls at hl ⊢
  have hl : lv_has ls 4 [(0, .ref w), (1, .int (nI q)), (2, .int (nI 9))] := hl
  have h10 := hok.1
  have h8 := hok.2.1
  have h5 := hok.2.2.1
  have hd_ := hok.hd
  refine lv_aload_n hx hb dX4_ofPerson_0 rfl (lv_at hl 0 rfl) ?_
  refine va_get (D := D) (ci := cWx) (C := RX4) (T := TX4) (N := 2) (ws := [(w, .inr (cWx, [.ref (L 0 0), .ref (L2 0 0)]))]) (v := .ref (L 0 0)) hx hb hts (by decide +kernel) hown hK (wx_one hV hS hwA) 0 rfl rfl 0 (by decide) (hts (.fieldLink RX4 10 "Waxrow" "house" "LWaxrow$House;") (by decide +kernel)) (fun _ h9 => h9) rfl dX4_ofPerson_1 ?_
  refine lv_iload_n hx hb dX4_ofPerson_4 rfl (lv_at hl 1 rfl) ?_
  refine hs_callr (As := [.int (nI q)]) ⟨hx, hb, hml, hown, hts⟩ (kX1_personAt l D d L σ A q P hok.hP hq hok.1) (cwV 1 hts gX4_ofPerson_X1_personAt rfl rfl rfl (by decide +kernel) ⟨Nat.le_of_ble_eq_true rfl, Nat.le_of_ble_eq_true rfl⟩) hK hE hW hS hs_ix0 (ci := cHo) (r := (RX1, TX1, 11)) rfl rfl rfl rfl hl.1 (Nat.le_of_ble_eq_true rfl) dX4_ofPerson_5 ⟨Nat.zero_le _, Nat.zero_le _⟩ rfl (fun H locs hW hS => ?_)
  refine lv_astore_n (lv' := [(3, .ref (L 4 q)), (0, .ref w), (1, .int (nI q)), (2, .int (nI 9))]) hx hb dX4_ofPerson_8 rfl hl (by decide) rfl (fun ls hl => ?_)
  refine lv_iload_n hx hb dX4_ofPerson_9 rfl (lv_at hl 3 rfl) ?_
  refine lv_iconst (v := 0) hx hb dX4_ofPerson_10 (by decide) ?_
  refine lv_bipush (v := 10) hx hb dX4_ofPerson_11 (by decide) ?_
  refine hs_runv (As := [.int (nI 9), .int 0, .int 10]) ⟨hx, hb, hml, hown, hts⟩ (kX4_checkArgument l D d L σ A (nI 9) 0 10 (by decide +kernel) (by decide +kernel)) (va_cwS 3 hts gX4_ofPerson_X4_checkArgument rfl rfl rfl (by decide +kernel) ⟨Nat.le_of_ble_eq_true rfl, Nat.le_of_ble_eq_true rfl⟩) hK hE hW hS rfl hl.1 (Nat.le_of_ble_eq_true rfl) dX4_ofPerson_13 ⟨Nat.zero_le _, Nat.zero_le _⟩ rfl (fun τ_ H locs hp hW hS => ?_)
  obtain rfl := hp
  refine lv_iload_n hx hb dX4_ofPerson_16 rfl (lv_at hl 3 rfl) ?_
  refine lv_iconst (v := 3) hx hb dX4_ofPerson_17 (by decide) ?_
  refine lv_icmp_ge (tgt := 28) hx hb dX4_ofPerson_18 (by decide) (fun c_18 => ?_) (fun c_18 => ?_)
  · refine lv_iload_n hx hb dX4_ofPerson_28 rfl (lv_at hl 3 rfl) ?_
    refine lv_bipush (v := 6) hx hb dX4_ofPerson_29 (by decide) ?_
    refine lv_icmp_ge (tgt := 43) hx hb dX4_ofPerson_31 (by decide) (fun c_31 => ?_) (fun c_31 => ?_)
    · refine lv_iload_n hx hb dX4_ofPerson_43 rfl (lv_at hl 3 rfl) ?_
      refine lv_tableIn (off := 55) (tgt := 99) hx hb dX4_ofPerson_44 (by decide +kernel) (by decide +kernel) (by decide +kernel) (by decide) ?_
      refine lv_aload_n hx hb dX4_ofPerson_99 rfl (lv_at hl 0 rfl) ?_
      refine va_get (D := D) (ci := cPe) (C := RX2) (T := TX2) (N := 8) (ws := [(L 4 q, hs_ct d L σ 4 q)]) (v := .int (σ 4 q 7)) hx hb hts (by decide +kernel) hown hK (hW.one (hs_ix4 (show q < 10 by omega))) 0 rfl rfl 7 (by decide) (hts (.fieldLink RX4 192 "Waxrow$Person" "clashes" "I") (by decide +kernel)) (fun _ h9 => h9) rfl dX4_ofPerson_100 ?_
      exact W.iret (v := σ 4 q 7) hx hb hr (fun t ht hW9 => ⟨⟨(σ 4 q 7), σ, rfl, ⟨rfl, rfl⟩, ⟨by rw [ht]; exact hW, va_K.moved hW9.alike hK⟩⟩, hS.F ht⟩) hS.2.2 dX4_ofPerson_103
    · exact absurd (by decide +kernel) c_31
  · exact absurd (by decide +kernel) c_18
set_option maxHeartbeats 4000000 in
set_option maxRecDepth 100000 in
/-- ofPerson -/
theorem kX4_ofPerson_10 (l : Launch) (D : va_G) (d : hs_Dm) (L : hs_Lo) (σ : hs_St) (A : Nat → Prop) (w : Nat) (L2 : hs_Lo) (hwA : ¬ A w) (P F R : Nat) (hok : hs_ok P F R σ) (q : Nat) (hq : q < P) : wx_Mi l yX4_ofPerson wsX4_ofPerson ({ frames := 5, cells := 0, slots := 0, locals := 100 }) D d w L L2 σ A [.ref w, .int (nI q), .int (nI 10)] (fun r τ => sp_ofP σ F q 10 = r ∧ σ = τ) := by
  refine Met.ofW (cc := cX4_ofPerson) (maxL := 4) (ret := (some .int)) (by decide) rfl ?_
  intro p e s m args below meth c s₁ B hml hv
  obtain ⟨rfl, ⟨⟨hW, hK⟩, hX⟩, hV⟩ := hv
  have hE := hX.1
  have hx := B.exec
  have hb := B.bytes
  have hr := B.returns
  have hts := atoms_spec (ws := wsX4_ofPerson) B.pre
  have hown : s.vm.findClass RX4 = some m.cls := findClass_of_methodNamed B.named
  have hlocks := B.notSynchronized
  have hS : va_S A s.heap s.heap [] := va_S.rf
  have hW : hs_W D d L σ A s.heap := hW
  have hl := lv_entry ([.ref w, .int (nI q), .int (nI 10)]) (n := 4) (Nat.le_of_ble_eq_true rfl)
  rw [lg_entry_eq]
  generalize (lg_sl ([.ref w, .int (nI q), .int (nI 10)]) ++ List.replicate (4 - (lg_sl ([.ref w, .int (nI q), .int (nI 10)])).length) Slot.unset).toArray = ls at hl ⊢
  have hl : lv_has ls 4 [(0, .ref w), (1, .int (nI q)), (2, .int (nI 10))] := hl
  have h10 := hok.1
  have h8 := hok.2.1
  have h5 := hok.2.2.1
  have hd_ := hok.hd
  refine lv_aload_n hx hb dX4_ofPerson_0 rfl (lv_at hl 0 rfl) ?_
  refine va_get (D := D) (ci := cWx) (C := RX4) (T := TX4) (N := 2) (ws := [(w, .inr (cWx, [.ref (L 0 0), .ref (L2 0 0)]))]) (v := .ref (L 0 0)) hx hb hts (by decide +kernel) hown hK (wx_one hV hS hwA) 0 rfl rfl 0 (by decide) (hts (.fieldLink RX4 10 "Waxrow" "house" "LWaxrow$House;") (by decide +kernel)) (fun _ h9 => h9) rfl dX4_ofPerson_1 ?_
  refine lv_iload_n hx hb dX4_ofPerson_4 rfl (lv_at hl 1 rfl) ?_
  refine hs_callr (As := [.int (nI q)]) ⟨hx, hb, hml, hown, hts⟩ (kX1_personAt l D d L σ A q P hok.hP hq hok.1) (cwV 1 hts gX4_ofPerson_X1_personAt rfl rfl rfl (by decide +kernel) ⟨Nat.le_of_ble_eq_true rfl, Nat.le_of_ble_eq_true rfl⟩) hK hE hW hS hs_ix0 (ci := cHo) (r := (RX1, TX1, 11)) rfl rfl rfl rfl hl.1 (Nat.le_of_ble_eq_true rfl) dX4_ofPerson_5 ⟨Nat.zero_le _, Nat.zero_le _⟩ rfl (fun H locs hW hS => ?_)
  refine lv_astore_n (lv' := [(3, .ref (L 4 q)), (0, .ref w), (1, .int (nI q)), (2, .int (nI 10))]) hx hb dX4_ofPerson_8 rfl hl (by decide) rfl (fun ls hl => ?_)
  refine lv_iload_n hx hb dX4_ofPerson_9 rfl (lv_at hl 3 rfl) ?_
  refine lv_iconst (v := 0) hx hb dX4_ofPerson_10 (by decide) ?_
  refine lv_bipush (v := 10) hx hb dX4_ofPerson_11 (by decide) ?_
  refine hs_runv (As := [.int (nI 10), .int 0, .int 10]) ⟨hx, hb, hml, hown, hts⟩ (kX4_checkArgument l D d L σ A (nI 10) 0 10 (by decide +kernel) (by decide +kernel)) (va_cwS 3 hts gX4_ofPerson_X4_checkArgument rfl rfl rfl (by decide +kernel) ⟨Nat.le_of_ble_eq_true rfl, Nat.le_of_ble_eq_true rfl⟩) hK hE hW hS rfl hl.1 (Nat.le_of_ble_eq_true rfl) dX4_ofPerson_13 ⟨Nat.zero_le _, Nat.zero_le _⟩ rfl (fun τ_ H locs hp hW hS => ?_)
  obtain rfl := hp
  refine lv_iload_n hx hb dX4_ofPerson_16 rfl (lv_at hl 3 rfl) ?_
  refine lv_iconst (v := 3) hx hb dX4_ofPerson_17 (by decide) ?_
  refine lv_icmp_ge (tgt := 28) hx hb dX4_ofPerson_18 (by decide) (fun c_18 => ?_) (fun c_18 => ?_)
  · refine lv_iload_n hx hb dX4_ofPerson_28 rfl (lv_at hl 3 rfl) ?_
    refine lv_bipush (v := 6) hx hb dX4_ofPerson_29 (by decide) ?_
    refine lv_icmp_ge (tgt := 43) hx hb dX4_ofPerson_31 (by decide) (fun c_31 => ?_) (fun c_31 => ?_)
    · refine lv_iload_n hx hb dX4_ofPerson_43 rfl (lv_at hl 3 rfl) ?_
      refine lv_tableOut (tgt := 104) hx hb dX4_ofPerson_44 (by decide +kernel) (by decide) ?_
      refine lv_aload_n hx hb dX4_ofPerson_104 rfl (lv_at hl 1 rfl) ?_
      refine va_get (D := D) (ci := cWx) (C := RX4) (T := TX4) (N := 2) (ws := [(w, .inr (cWx, [.ref (L 0 0), .ref (L2 0 0)]))]) (v := .ref (L 0 0)) hx hb hts (by decide +kernel) hown hK (wx_one hV hS hwA) 0 rfl rfl 0 (by decide) (hts (.fieldLink RX4 10 "Waxrow" "house" "LWaxrow$House;") (by decide +kernel)) (fun _ h9 => h9) rfl dX4_ofPerson_105 ?_
      refine lv_aload_n hx hb dX4_ofPerson_108 rfl (lv_at hl 0 rfl) ?_
      refine hs_calli (As := [.ref (L 4 q)]) ⟨hx, hb, hml, hown, hts⟩ (kX1_shownOf l D d L σ A q (show q < 10 by omega) F hok.hF hok.2.1 hok.hd) (cwV 1 hts gX4_ofPerson_X1_shownOf rfl rfl rfl (by decide +kernel) ⟨Nat.le_of_ble_eq_true rfl, Nat.le_of_ble_eq_true rfl⟩) hK hE hW hS hs_ix0 (ci := cHo) (r := (RX1, TX1, 11)) rfl rfl rfl rfl hl.1 (Nat.le_of_ble_eq_true rfl) dX4_ofPerson_109 ⟨Nat.zero_le _, Nat.zero_le _⟩ rfl (fun r_ τ_ H locs hp hW hS => ?_)
      obtain ⟨rfl, rfl⟩ := hp
      exact W.iret (v := sp_shownFrom σ q F 0) hx hb hr (fun t ht hW9 => ⟨⟨(sp_shownFrom σ q F 0), σ, rfl, ⟨rfl, rfl⟩, ⟨by rw [ht]; exact hW, va_K.moved hW9.alike hK⟩⟩, hS.F ht⟩) hS.2.2 dX4_ofPerson_112
    · exact absurd (by decide +kernel) c_31
  · exact absurd (by decide +kernel) c_18
set_option maxHeartbeats 4000000 in
set_option maxRecDepth 100000 in
/-- ofFigure -/
theorem kX4_ofFigure_0 (l : Launch) (D : va_G) (d : hs_Dm) (L : hs_Lo) (σ : hs_St) (A : Nat → Prop) (w : Nat) (L2 : hs_Lo) (hwA : ¬ A w) (P F R : Nat) (hok : hs_ok P F R σ) (f : Nat) (hf : f < F) : wx_Mi l yX4_ofFigure wsX4_ofFigure ({ frames := 5, cells := 0, slots := 0, locals := 100 }) D d w L L2 σ A [.ref w, .int (nI f), .int (nI 0)] (fun r τ => sp_ofF σ f 0 = r ∧ σ = τ) := by
  refine Met.ofW (cc := cX4_ofFigure) (maxL := 4) (ret := (some .int)) (by decide) rfl ?_
  intro p e s m args below meth c s₁ B hml hv
  obtain ⟨rfl, ⟨⟨hW, hK⟩, hX⟩, hV⟩ := hv
  have hE := hX.1
  have hx := B.exec
  have hb := B.bytes
  have hr := B.returns
  have hts := atoms_spec (ws := wsX4_ofFigure) B.pre
  have hown : s.vm.findClass RX4 = some m.cls := findClass_of_methodNamed B.named
  have hlocks := B.notSynchronized
  have hS : va_S A s.heap s.heap [] := va_S.rf
  have hW : hs_W D d L σ A s.heap := hW
  have hl := lv_entry ([.ref w, .int (nI f), .int (nI 0)]) (n := 4) (Nat.le_of_ble_eq_true rfl)
  rw [lg_entry_eq]
  generalize (lg_sl ([.ref w, .int (nI f), .int (nI 0)]) ++ List.replicate (4 - (lg_sl ([.ref w, .int (nI f), .int (nI 0)])).length) Slot.unset).toArray = ls at hl ⊢
  have hl : lv_has ls 4 [(0, .ref w), (1, .int (nI f)), (2, .int (nI 0))] := hl
  have h10 := hok.1
  have h8 := hok.2.1
  have h5 := hok.2.2.1
  have hd_ := hok.hd
  refine lv_aload_n hx hb dX4_ofFigure_0 rfl (lv_at hl 0 rfl) ?_
  refine va_get (D := D) (ci := cWx) (C := RX4) (T := TX4) (N := 2) (ws := [(w, .inr (cWx, [.ref (L 0 0), .ref (L2 0 0)]))]) (v := .ref (L 0 0)) hx hb hts (by decide +kernel) hown hK (wx_one hV hS hwA) 0 rfl rfl 0 (by decide) (hts (.fieldLink RX4 10 "Waxrow" "house" "LWaxrow$House;") (by decide +kernel)) (fun _ h9 => h9) rfl dX4_ofFigure_1 ?_
  refine lv_iload_n hx hb dX4_ofFigure_4 rfl (lv_at hl 1 rfl) ?_
  refine hs_callr (As := [.int (nI f)]) ⟨hx, hb, hml, hown, hts⟩ (kX1_figureAt l D d L σ A f F hok.hF hf hok.2.1) (cwV 1 hts gX4_ofFigure_X1_figureAt rfl rfl rfl (by decide +kernel) ⟨Nat.le_of_ble_eq_true rfl, Nat.le_of_ble_eq_true rfl⟩) hK hE hW hS hs_ix0 (ci := cHo) (r := (RX1, TX1, 11)) rfl rfl rfl rfl hl.1 (Nat.le_of_ble_eq_true rfl) dX4_ofFigure_5 ⟨Nat.zero_le _, Nat.zero_le _⟩ rfl (fun H locs hW hS => ?_)
  refine lv_astore_n (lv' := [(3, .ref (L 9 f)), (0, .ref w), (1, .int (nI f)), (2, .int (nI 0))]) hx hb dX4_ofFigure_8 rfl hl (by decide) rfl (fun ls hl => ?_)
  refine lv_iload_n hx hb dX4_ofFigure_9 rfl (lv_at hl 3 rfl) ?_
  refine lv_iconst (v := 0) hx hb dX4_ofFigure_10 (by decide) ?_
  refine lv_bipush (v := 11) hx hb dX4_ofFigure_11 (by decide) ?_
  refine hs_runv (As := [.int (nI 0), .int 0, .int 11]) ⟨hx, hb, hml, hown, hts⟩ (kX4_checkArgument l D d L σ A (nI 0) 0 11 (by decide +kernel) (by decide +kernel)) (va_cwS 3 hts gX4_ofFigure_X4_checkArgument rfl rfl rfl (by decide +kernel) ⟨Nat.le_of_ble_eq_true rfl, Nat.le_of_ble_eq_true rfl⟩) hK hE hW hS rfl hl.1 (Nat.le_of_ble_eq_true rfl) dX4_ofFigure_13 ⟨Nat.zero_le _, Nat.zero_le _⟩ rfl (fun τ_ H locs hp hW hS => ?_)
  obtain rfl := hp
  refine lv_iload_n hx hb dX4_ofFigure_16 rfl (lv_at hl 3 rfl) ?_
  refine lv_tableIn (off := 59) (tgt := 76) hx hb dX4_ofFigure_17 (by decide +kernel) (by decide +kernel) (by decide +kernel) (by decide) ?_
  refine lv_aload_n hx hb dX4_ofFigure_76 rfl (lv_at hl 0 rfl) ?_
  refine va_get (D := D) (ci := cFi) (C := RX0) (T := TX0) (N := 11) (ws := [(L 9 f, hs_ct d L σ 9 f)]) (v := .ref (L 4 ((σ 9 f 0).toNatClampNeg))) hx hb hts (by decide +kernel) hown hK (hW.one (hs_ix9 (show f < 8 by omega))) 0 rfl rfl 0 (by decide) (hts (.fieldLink RX4 140 "Waxrow$Figure" "head" "LWaxrow$Person;") (by decide +kernel)) (fun _ h9 => h9) rfl dX4_ofFigure_77 ?_
  refine va_get (D := D) (ci := cPe) (C := RX2) (T := TX2) (N := 8) (ws := [(L 4 ((σ 9 f 0).toNatClampNeg), hs_ct d L σ 4 ((σ 9 f 0).toNatClampNeg))]) (v := .int (nI ((σ 9 f 0).toNatClampNeg))) hx hb hts (by decide +kernel) hown hK (hW.one (hs_ix4 ((hok.hd f (by omega)).1))) 0 rfl rfl 0 (by decide) (hts (.fieldLink RX4 195 "Waxrow$Person" "number" "I") (by decide +kernel)) (fun _ h9 => h9) rfl dX4_ofFigure_80 ?_
  exact W.iret (v := nI ((σ 9 f 0).toNatClampNeg)) hx hb hr (fun t ht hW9 => ⟨⟨(nI ((σ 9 f 0).toNatClampNeg)), σ, rfl, ⟨rfl, rfl⟩, ⟨by rw [ht]; exact hW, va_K.moved hW9.alike hK⟩⟩, hS.F ht⟩) hS.2.2 dX4_ofFigure_83
set_option maxHeartbeats 4000000 in
set_option maxRecDepth 100000 in
/-- ofFigure -/
theorem kX4_ofFigure_1 (l : Launch) (D : va_G) (d : hs_Dm) (L : hs_Lo) (σ : hs_St) (A : Nat → Prop) (w : Nat) (L2 : hs_Lo) (hwA : ¬ A w) (P F R : Nat) (hok : hs_ok P F R σ) (f : Nat) (hf : f < F) : wx_Mi l yX4_ofFigure wsX4_ofFigure ({ frames := 5, cells := 0, slots := 0, locals := 100 }) D d w L L2 σ A [.ref w, .int (nI f), .int (nI 1)] (fun r τ => sp_ofF σ f 1 = r ∧ σ = τ) := by
  refine Met.ofW (cc := cX4_ofFigure) (maxL := 4) (ret := (some .int)) (by decide) rfl ?_
  intro p e s m args below meth c s₁ B hml hv
  obtain ⟨rfl, ⟨⟨hW, hK⟩, hX⟩, hV⟩ := hv
  have hE := hX.1
  have hx := B.exec
  have hb := B.bytes
  have hr := B.returns
  have hts := atoms_spec (ws := wsX4_ofFigure) B.pre
  have hown : s.vm.findClass RX4 = some m.cls := findClass_of_methodNamed B.named
  have hlocks := B.notSynchronized
  have hS : va_S A s.heap s.heap [] := va_S.rf
  have hW : hs_W D d L σ A s.heap := hW
  have hl := lv_entry ([.ref w, .int (nI f), .int (nI 1)]) (n := 4) (Nat.le_of_ble_eq_true rfl)
  rw [lg_entry_eq]
  generalize (lg_sl ([.ref w, .int (nI f), .int (nI 1)]) ++ List.replicate (4 - (lg_sl ([.ref w, .int (nI f), .int (nI 1)])).length) Slot.unset).toArray = ls at hl ⊢
  have hl : lv_has ls 4 [(0, .ref w), (1, .int (nI f)), (2, .int (nI 1))] := hl
  have h10 := hok.1
  have h8 := hok.2.1
  have h5 := hok.2.2.1
  have hd_ := hok.hd
  refine lv_aload_n hx hb dX4_ofFigure_0 rfl (lv_at hl 0 rfl) ?_
  refine va_get (D := D) (ci := cWx) (C := RX4) (T := TX4) (N := 2) (ws := [(w, .inr (cWx, [.ref (L 0 0), .ref (L2 0 0)]))]) (v := .ref (L 0 0)) hx hb hts (by decide +kernel) hown hK (wx_one hV hS hwA) 0 rfl rfl 0 (by decide) (hts (.fieldLink RX4 10 "Waxrow" "house" "LWaxrow$House;") (by decide +kernel)) (fun _ h9 => h9) rfl dX4_ofFigure_1 ?_
  refine lv_iload_n hx hb dX4_ofFigure_4 rfl (lv_at hl 1 rfl) ?_
  refine hs_callr (As := [.int (nI f)]) ⟨hx, hb, hml, hown, hts⟩ (kX1_figureAt l D d L σ A f F hok.hF hf hok.2.1) (cwV 1 hts gX4_ofFigure_X1_figureAt rfl rfl rfl (by decide +kernel) ⟨Nat.le_of_ble_eq_true rfl, Nat.le_of_ble_eq_true rfl⟩) hK hE hW hS hs_ix0 (ci := cHo) (r := (RX1, TX1, 11)) rfl rfl rfl rfl hl.1 (Nat.le_of_ble_eq_true rfl) dX4_ofFigure_5 ⟨Nat.zero_le _, Nat.zero_le _⟩ rfl (fun H locs hW hS => ?_)
  refine lv_astore_n (lv' := [(3, .ref (L 9 f)), (0, .ref w), (1, .int (nI f)), (2, .int (nI 1))]) hx hb dX4_ofFigure_8 rfl hl (by decide) rfl (fun ls hl => ?_)
  refine lv_iload_n hx hb dX4_ofFigure_9 rfl (lv_at hl 3 rfl) ?_
  refine lv_iconst (v := 0) hx hb dX4_ofFigure_10 (by decide) ?_
  refine lv_bipush (v := 11) hx hb dX4_ofFigure_11 (by decide) ?_
  refine hs_runv (As := [.int (nI 1), .int 0, .int 11]) ⟨hx, hb, hml, hown, hts⟩ (kX4_checkArgument l D d L σ A (nI 1) 0 11 (by decide +kernel) (by decide +kernel)) (va_cwS 3 hts gX4_ofFigure_X4_checkArgument rfl rfl rfl (by decide +kernel) ⟨Nat.le_of_ble_eq_true rfl, Nat.le_of_ble_eq_true rfl⟩) hK hE hW hS rfl hl.1 (Nat.le_of_ble_eq_true rfl) dX4_ofFigure_13 ⟨Nat.zero_le _, Nat.zero_le _⟩ rfl (fun τ_ H locs hp hW hS => ?_)
  obtain rfl := hp
  refine lv_iload_n hx hb dX4_ofFigure_16 rfl (lv_at hl 3 rfl) ?_
  refine lv_tableIn (off := 67) (tgt := 84) hx hb dX4_ofFigure_17 (by decide +kernel) (by decide +kernel) (by decide +kernel) (by decide) ?_
  refine lv_aload_n hx hb dX4_ofFigure_84 rfl (lv_at hl 0 rfl) ?_
  refine va_get (D := D) (ci := cFi) (C := RX0) (T := TX0) (N := 11) (ws := [(L 9 f, hs_ct d L σ 9 f)]) (v := .ref (L 4 ((σ 9 f 1).toNatClampNeg))) hx hb hts (by decide +kernel) hown hK (hW.one (hs_ix9 (show f < 8 by omega))) 0 rfl rfl 1 (by decide) (hts (.fieldLink RX4 198 "Waxrow$Figure" "body" "LWaxrow$Person;") (by decide +kernel)) (fun _ h9 => h9) rfl dX4_ofFigure_85 ?_
  refine va_get (D := D) (ci := cPe) (C := RX2) (T := TX2) (N := 8) (ws := [(L 4 ((σ 9 f 1).toNatClampNeg), hs_ct d L σ 4 ((σ 9 f 1).toNatClampNeg))]) (v := .int (nI ((σ 9 f 1).toNatClampNeg))) hx hb hts (by decide +kernel) hown hK (hW.one (hs_ix4 ((hok.hd f (by omega)).2))) 0 rfl rfl 0 (by decide) (hts (.fieldLink RX4 195 "Waxrow$Person" "number" "I") (by decide +kernel)) (fun _ h9 => h9) rfl dX4_ofFigure_88 ?_
  exact W.iret (v := nI ((σ 9 f 1).toNatClampNeg)) hx hb hr (fun t ht hW9 => ⟨⟨(nI ((σ 9 f 1).toNatClampNeg)), σ, rfl, ⟨rfl, rfl⟩, ⟨by rw [ht]; exact hW, va_K.moved hW9.alike hK⟩⟩, hS.F ht⟩) hS.2.2 dX4_ofFigure_91
set_option maxHeartbeats 4000000 in
set_option maxRecDepth 100000 in
/-- ofFigure -/
theorem kX4_ofFigure_2 (l : Launch) (D : va_G) (d : hs_Dm) (L : hs_Lo) (σ : hs_St) (A : Nat → Prop) (w : Nat) (L2 : hs_Lo) (hwA : ¬ A w) (P F R : Nat) (hok : hs_ok P F R σ) (f : Nat) (hf : f < F) : wx_Mi l yX4_ofFigure wsX4_ofFigure ({ frames := 5, cells := 0, slots := 0, locals := 100 }) D d w L L2 σ A [.ref w, .int (nI f), .int (nI 2)] (fun r τ => sp_ofF σ f 2 = r ∧ σ = τ) := by
  refine Met.ofW (cc := cX4_ofFigure) (maxL := 4) (ret := (some .int)) (by decide) rfl ?_
  intro p e s m args below meth c s₁ B hml hv
  obtain ⟨rfl, ⟨⟨hW, hK⟩, hX⟩, hV⟩ := hv
  have hE := hX.1
  have hx := B.exec
  have hb := B.bytes
  have hr := B.returns
  have hts := atoms_spec (ws := wsX4_ofFigure) B.pre
  have hown : s.vm.findClass RX4 = some m.cls := findClass_of_methodNamed B.named
  have hlocks := B.notSynchronized
  have hS : va_S A s.heap s.heap [] := va_S.rf
  have hW : hs_W D d L σ A s.heap := hW
  have hl := lv_entry ([.ref w, .int (nI f), .int (nI 2)]) (n := 4) (Nat.le_of_ble_eq_true rfl)
  rw [lg_entry_eq]
  generalize (lg_sl ([.ref w, .int (nI f), .int (nI 2)]) ++ List.replicate (4 - (lg_sl ([.ref w, .int (nI f), .int (nI 2)])).length) Slot.unset).toArray = ls at hl ⊢
  have hl : lv_has ls 4 [(0, .ref w), (1, .int (nI f)), (2, .int (nI 2))] := hl
  have h10 := hok.1
  have h8 := hok.2.1
  have h5 := hok.2.2.1
  have hd_ := hok.hd
  refine lv_aload_n hx hb dX4_ofFigure_0 rfl (lv_at hl 0 rfl) ?_
  refine va_get (D := D) (ci := cWx) (C := RX4) (T := TX4) (N := 2) (ws := [(w, .inr (cWx, [.ref (L 0 0), .ref (L2 0 0)]))]) (v := .ref (L 0 0)) hx hb hts (by decide +kernel) hown hK (wx_one hV hS hwA) 0 rfl rfl 0 (by decide) (hts (.fieldLink RX4 10 "Waxrow" "house" "LWaxrow$House;") (by decide +kernel)) (fun _ h9 => h9) rfl dX4_ofFigure_1 ?_
  refine lv_iload_n hx hb dX4_ofFigure_4 rfl (lv_at hl 1 rfl) ?_
  refine hs_callr (As := [.int (nI f)]) ⟨hx, hb, hml, hown, hts⟩ (kX1_figureAt l D d L σ A f F hok.hF hf hok.2.1) (cwV 1 hts gX4_ofFigure_X1_figureAt rfl rfl rfl (by decide +kernel) ⟨Nat.le_of_ble_eq_true rfl, Nat.le_of_ble_eq_true rfl⟩) hK hE hW hS hs_ix0 (ci := cHo) (r := (RX1, TX1, 11)) rfl rfl rfl rfl hl.1 (Nat.le_of_ble_eq_true rfl) dX4_ofFigure_5 ⟨Nat.zero_le _, Nat.zero_le _⟩ rfl (fun H locs hW hS => ?_)
  refine lv_astore_n (lv' := [(3, .ref (L 9 f)), (0, .ref w), (1, .int (nI f)), (2, .int (nI 2))]) hx hb dX4_ofFigure_8 rfl hl (by decide) rfl (fun ls hl => ?_)
  refine lv_iload_n hx hb dX4_ofFigure_9 rfl (lv_at hl 3 rfl) ?_
  refine lv_iconst (v := 0) hx hb dX4_ofFigure_10 (by decide) ?_
  refine lv_bipush (v := 11) hx hb dX4_ofFigure_11 (by decide) ?_
  refine hs_runv (As := [.int (nI 2), .int 0, .int 11]) ⟨hx, hb, hml, hown, hts⟩ (kX4_checkArgument l D d L σ A (nI 2) 0 11 (by decide +kernel) (by decide +kernel)) (va_cwS 3 hts gX4_ofFigure_X4_checkArgument rfl rfl rfl (by decide +kernel) ⟨Nat.le_of_ble_eq_true rfl, Nat.le_of_ble_eq_true rfl⟩) hK hE hW hS rfl hl.1 (Nat.le_of_ble_eq_true rfl) dX4_ofFigure_13 ⟨Nat.zero_le _, Nat.zero_le _⟩ rfl (fun τ_ H locs hp hW hS => ?_)
  obtain rfl := hp
  refine lv_iload_n hx hb dX4_ofFigure_16 rfl (lv_at hl 3 rfl) ?_
  refine lv_tableIn (off := 75) (tgt := 92) hx hb dX4_ofFigure_17 (by decide +kernel) (by decide +kernel) (by decide +kernel) (by decide) ?_
  refine lv_aload_n hx hb dX4_ofFigure_92 rfl (lv_at hl 0 rfl) ?_
  refine va_get (D := D) (ci := cFi) (C := RX0) (T := TX0) (N := 11) (ws := [(L 9 f, hs_ct d L σ 9 f)]) (v := .int (σ 9 f 2)) hx hb hts (by decide +kernel) hown hK (hW.one (hs_ix9 (show f < 8 by omega))) 0 rfl rfl 2 (by decide) (hts (.fieldLink RX4 107 "Waxrow$Figure" "step" "I") (by decide +kernel)) (fun _ h9 => h9) rfl dX4_ofFigure_93 ?_
  exact W.iret (v := σ 9 f 2) hx hb hr (fun t ht hW9 => ⟨⟨(σ 9 f 2), σ, rfl, ⟨rfl, rfl⟩, ⟨by rw [ht]; exact hW, va_K.moved hW9.alike hK⟩⟩, hS.F ht⟩) hS.2.2 dX4_ofFigure_96
set_option maxHeartbeats 4000000 in
set_option maxRecDepth 100000 in
/-- ofFigure -/
theorem kX4_ofFigure_3 (l : Launch) (D : va_G) (d : hs_Dm) (L : hs_Lo) (σ : hs_St) (A : Nat → Prop) (w : Nat) (L2 : hs_Lo) (hwA : ¬ A w) (P F R : Nat) (hok : hs_ok P F R σ) (f : Nat) (hf : f < F) : wx_Mi l yX4_ofFigure wsX4_ofFigure ({ frames := 5, cells := 0, slots := 0, locals := 100 }) D d w L L2 σ A [.ref w, .int (nI f), .int (nI 3)] (fun r τ => sp_ofF σ f 3 = r ∧ σ = τ) := by
  refine Met.ofW (cc := cX4_ofFigure) (maxL := 4) (ret := (some .int)) (by decide) rfl ?_
  intro p e s m args below meth c s₁ B hml hv
  obtain ⟨rfl, ⟨⟨hW, hK⟩, hX⟩, hV⟩ := hv
  have hE := hX.1
  have hx := B.exec
  have hb := B.bytes
  have hr := B.returns
  have hts := atoms_spec (ws := wsX4_ofFigure) B.pre
  have hown : s.vm.findClass RX4 = some m.cls := findClass_of_methodNamed B.named
  have hlocks := B.notSynchronized
  have hS : va_S A s.heap s.heap [] := va_S.rf
  have hW : hs_W D d L σ A s.heap := hW
  have hl := lv_entry ([.ref w, .int (nI f), .int (nI 3)]) (n := 4) (Nat.le_of_ble_eq_true rfl)
  rw [lg_entry_eq]
  generalize (lg_sl ([.ref w, .int (nI f), .int (nI 3)]) ++ List.replicate (4 - (lg_sl ([.ref w, .int (nI f), .int (nI 3)])).length) Slot.unset).toArray = ls at hl ⊢
  have hl : lv_has ls 4 [(0, .ref w), (1, .int (nI f)), (2, .int (nI 3))] := hl
  have h10 := hok.1
  have h8 := hok.2.1
  have h5 := hok.2.2.1
  have hd_ := hok.hd
  refine lv_aload_n hx hb dX4_ofFigure_0 rfl (lv_at hl 0 rfl) ?_
  refine va_get (D := D) (ci := cWx) (C := RX4) (T := TX4) (N := 2) (ws := [(w, .inr (cWx, [.ref (L 0 0), .ref (L2 0 0)]))]) (v := .ref (L 0 0)) hx hb hts (by decide +kernel) hown hK (wx_one hV hS hwA) 0 rfl rfl 0 (by decide) (hts (.fieldLink RX4 10 "Waxrow" "house" "LWaxrow$House;") (by decide +kernel)) (fun _ h9 => h9) rfl dX4_ofFigure_1 ?_
  refine lv_iload_n hx hb dX4_ofFigure_4 rfl (lv_at hl 1 rfl) ?_
  refine hs_callr (As := [.int (nI f)]) ⟨hx, hb, hml, hown, hts⟩ (kX1_figureAt l D d L σ A f F hok.hF hf hok.2.1) (cwV 1 hts gX4_ofFigure_X1_figureAt rfl rfl rfl (by decide +kernel) ⟨Nat.le_of_ble_eq_true rfl, Nat.le_of_ble_eq_true rfl⟩) hK hE hW hS hs_ix0 (ci := cHo) (r := (RX1, TX1, 11)) rfl rfl rfl rfl hl.1 (Nat.le_of_ble_eq_true rfl) dX4_ofFigure_5 ⟨Nat.zero_le _, Nat.zero_le _⟩ rfl (fun H locs hW hS => ?_)
  refine lv_astore_n (lv' := [(3, .ref (L 9 f)), (0, .ref w), (1, .int (nI f)), (2, .int (nI 3))]) hx hb dX4_ofFigure_8 rfl hl (by decide) rfl (fun ls hl => ?_)
  refine lv_iload_n hx hb dX4_ofFigure_9 rfl (lv_at hl 3 rfl) ?_
  refine lv_iconst (v := 0) hx hb dX4_ofFigure_10 (by decide) ?_
  refine lv_bipush (v := 11) hx hb dX4_ofFigure_11 (by decide) ?_
  refine hs_runv (As := [.int (nI 3), .int 0, .int 11]) ⟨hx, hb, hml, hown, hts⟩ (kX4_checkArgument l D d L σ A (nI 3) 0 11 (by decide +kernel) (by decide +kernel)) (va_cwS 3 hts gX4_ofFigure_X4_checkArgument rfl rfl rfl (by decide +kernel) ⟨Nat.le_of_ble_eq_true rfl, Nat.le_of_ble_eq_true rfl⟩) hK hE hW hS rfl hl.1 (Nat.le_of_ble_eq_true rfl) dX4_ofFigure_13 ⟨Nat.zero_le _, Nat.zero_le _⟩ rfl (fun τ_ H locs hp hW hS => ?_)
  obtain rfl := hp
  refine lv_iload_n hx hb dX4_ofFigure_16 rfl (lv_at hl 3 rfl) ?_
  refine lv_tableIn (off := 80) (tgt := 97) hx hb dX4_ofFigure_17 (by decide +kernel) (by decide +kernel) (by decide +kernel) (by decide) ?_
  refine lv_aload_n hx hb dX4_ofFigure_97 rfl (lv_at hl 0 rfl) ?_
  refine hs_calli (As := []) ⟨hx, hb, hml, hown, hts⟩ (kX0_workLeftInStep l D d L σ A f (show f < 8 by omega) (hok.st (by omega))) (cwV 0 hts gX4_ofFigure_X0_workLeftInStep rfl rfl rfl (by decide +kernel) ⟨Nat.le_of_ble_eq_true rfl, Nat.le_of_ble_eq_true rfl⟩) hK hE hW hS (hs_ix9 (show f < 8 by omega)) (ci := cFi) (r := (RX0, TX0, 11)) rfl rfl rfl rfl hl.1 (Nat.le_of_ble_eq_true rfl) dX4_ofFigure_98 ⟨Nat.zero_le _, Nat.zero_le _⟩ rfl (fun r_ τ_ H locs hp hW hS => ?_)
  obtain ⟨rfl, rfl⟩ := hp
  exact W.iret (v := sp_left σ f) hx hb hr (fun t ht hW9 => ⟨⟨(sp_left σ f), σ, rfl, ⟨rfl, rfl⟩, ⟨by rw [ht]; exact hW, va_K.moved hW9.alike hK⟩⟩, hS.F ht⟩) hS.2.2 dX4_ofFigure_101
set_option maxHeartbeats 4000000 in
set_option maxRecDepth 100000 in
/-- ofFigure -/
theorem kX4_ofFigure_4 (l : Launch) (D : va_G) (d : hs_Dm) (L : hs_Lo) (σ : hs_St) (A : Nat → Prop) (w : Nat) (L2 : hs_Lo) (hwA : ¬ A w) (P F R : Nat) (hok : hs_ok P F R σ) (f : Nat) (hf : f < F) : wx_Mi l yX4_ofFigure wsX4_ofFigure ({ frames := 5, cells := 0, slots := 0, locals := 100 }) D d w L L2 σ A [.ref w, .int (nI f), .int (nI 4)] (fun r τ => sp_ofF σ f 4 = r ∧ σ = τ) := by
  refine Met.ofW (cc := cX4_ofFigure) (maxL := 4) (ret := (some .int)) (by decide) rfl ?_
  intro p e s m args below meth c s₁ B hml hv
  obtain ⟨rfl, ⟨⟨hW, hK⟩, hX⟩, hV⟩ := hv
  have hE := hX.1
  have hx := B.exec
  have hb := B.bytes
  have hr := B.returns
  have hts := atoms_spec (ws := wsX4_ofFigure) B.pre
  have hown : s.vm.findClass RX4 = some m.cls := findClass_of_methodNamed B.named
  have hlocks := B.notSynchronized
  have hS : va_S A s.heap s.heap [] := va_S.rf
  have hW : hs_W D d L σ A s.heap := hW
  have hl := lv_entry ([.ref w, .int (nI f), .int (nI 4)]) (n := 4) (Nat.le_of_ble_eq_true rfl)
  rw [lg_entry_eq]
  generalize (lg_sl ([.ref w, .int (nI f), .int (nI 4)]) ++ List.replicate (4 - (lg_sl ([.ref w, .int (nI f), .int (nI 4)])).length) Slot.unset).toArray = ls at hl ⊢
  have hl : lv_has ls 4 [(0, .ref w), (1, .int (nI f)), (2, .int (nI 4))] := hl
  have h10 := hok.1
  have h8 := hok.2.1
  have h5 := hok.2.2.1
  have hd_ := hok.hd
  refine lv_aload_n hx hb dX4_ofFigure_0 rfl (lv_at hl 0 rfl) ?_
  refine va_get (D := D) (ci := cWx) (C := RX4) (T := TX4) (N := 2) (ws := [(w, .inr (cWx, [.ref (L 0 0), .ref (L2 0 0)]))]) (v := .ref (L 0 0)) hx hb hts (by decide +kernel) hown hK (wx_one hV hS hwA) 0 rfl rfl 0 (by decide) (hts (.fieldLink RX4 10 "Waxrow" "house" "LWaxrow$House;") (by decide +kernel)) (fun _ h9 => h9) rfl dX4_ofFigure_1 ?_
  refine lv_iload_n hx hb dX4_ofFigure_4 rfl (lv_at hl 1 rfl) ?_
  refine hs_callr (As := [.int (nI f)]) ⟨hx, hb, hml, hown, hts⟩ (kX1_figureAt l D d L σ A f F hok.hF hf hok.2.1) (cwV 1 hts gX4_ofFigure_X1_figureAt rfl rfl rfl (by decide +kernel) ⟨Nat.le_of_ble_eq_true rfl, Nat.le_of_ble_eq_true rfl⟩) hK hE hW hS hs_ix0 (ci := cHo) (r := (RX1, TX1, 11)) rfl rfl rfl rfl hl.1 (Nat.le_of_ble_eq_true rfl) dX4_ofFigure_5 ⟨Nat.zero_le _, Nat.zero_le _⟩ rfl (fun H locs hW hS => ?_)
  refine lv_astore_n (lv' := [(3, .ref (L 9 f)), (0, .ref w), (1, .int (nI f)), (2, .int (nI 4))]) hx hb dX4_ofFigure_8 rfl hl (by decide) rfl (fun ls hl => ?_)
  refine lv_iload_n hx hb dX4_ofFigure_9 rfl (lv_at hl 3 rfl) ?_
  refine lv_iconst (v := 0) hx hb dX4_ofFigure_10 (by decide) ?_
  refine lv_bipush (v := 11) hx hb dX4_ofFigure_11 (by decide) ?_
  refine hs_runv (As := [.int (nI 4), .int 0, .int 11]) ⟨hx, hb, hml, hown, hts⟩ (kX4_checkArgument l D d L σ A (nI 4) 0 11 (by decide +kernel) (by decide +kernel)) (va_cwS 3 hts gX4_ofFigure_X4_checkArgument rfl rfl rfl (by decide +kernel) ⟨Nat.le_of_ble_eq_true rfl, Nat.le_of_ble_eq_true rfl⟩) hK hE hW hS rfl hl.1 (Nat.le_of_ble_eq_true rfl) dX4_ofFigure_13 ⟨Nat.zero_le _, Nat.zero_le _⟩ rfl (fun τ_ H locs hp hW hS => ?_)
  obtain rfl := hp
  refine lv_iload_n hx hb dX4_ofFigure_16 rfl (lv_at hl 3 rfl) ?_
  refine lv_tableIn (off := 85) (tgt := 102) hx hb dX4_ofFigure_17 (by decide +kernel) (by decide +kernel) (by decide +kernel) (by decide) ?_
  refine lv_aload_n hx hb dX4_ofFigure_102 rfl (lv_at hl 0 rfl) ?_
  refine va_get (D := D) (ci := cFi) (C := RX0) (T := TX0) (N := 11) (ws := [(L 9 f, hs_ct d L σ 9 f)]) (v := .int (σ 9 f 4)) hx hb hts (by decide +kernel) hown hK (hW.one (hs_ix9 (show f < 8 by omega))) 0 rfl rfl 4 (by decide) (hts (.fieldLink RX4 102 "Waxrow$Figure" "hands" "I") (by decide +kernel)) (fun _ h9 => h9) rfl dX4_ofFigure_103 ?_
  exact W.iret (v := σ 9 f 4) hx hb hr (fun t ht hW9 => ⟨⟨(σ 9 f 4), σ, rfl, ⟨rfl, rfl⟩, ⟨by rw [ht]; exact hW, va_K.moved hW9.alike hK⟩⟩, hS.F ht⟩) hS.2.2 dX4_ofFigure_106
set_option maxHeartbeats 4000000 in
set_option maxRecDepth 100000 in
/-- ofFigure -/
theorem kX4_ofFigure_5 (l : Launch) (D : va_G) (d : hs_Dm) (L : hs_Lo) (σ : hs_St) (A : Nat → Prop) (w : Nat) (L2 : hs_Lo) (hwA : ¬ A w) (P F R : Nat) (hok : hs_ok P F R σ) (f : Nat) (hf : f < F) : wx_Mi l yX4_ofFigure wsX4_ofFigure ({ frames := 5, cells := 0, slots := 0, locals := 100 }) D d w L L2 σ A [.ref w, .int (nI f), .int (nI 5)] (fun r τ => sp_ofF σ f 5 = r ∧ σ = τ) := by
  refine Met.ofW (cc := cX4_ofFigure) (maxL := 4) (ret := (some .int)) (by decide) rfl ?_
  intro p e s m args below meth c s₁ B hml hv
  obtain ⟨rfl, ⟨⟨hW, hK⟩, hX⟩, hV⟩ := hv
  have hE := hX.1
  have hx := B.exec
  have hb := B.bytes
  have hr := B.returns
  have hts := atoms_spec (ws := wsX4_ofFigure) B.pre
  have hown : s.vm.findClass RX4 = some m.cls := findClass_of_methodNamed B.named
  have hlocks := B.notSynchronized
  have hS : va_S A s.heap s.heap [] := va_S.rf
  have hW : hs_W D d L σ A s.heap := hW
  have hl := lv_entry ([.ref w, .int (nI f), .int (nI 5)]) (n := 4) (Nat.le_of_ble_eq_true rfl)
  rw [lg_entry_eq]
  generalize (lg_sl ([.ref w, .int (nI f), .int (nI 5)]) ++ List.replicate (4 - (lg_sl ([.ref w, .int (nI f), .int (nI 5)])).length) Slot.unset).toArray = ls at hl ⊢
  have hl : lv_has ls 4 [(0, .ref w), (1, .int (nI f)), (2, .int (nI 5))] := hl
  have h10 := hok.1
  have h8 := hok.2.1
  have h5 := hok.2.2.1
  have hd_ := hok.hd
  refine lv_aload_n hx hb dX4_ofFigure_0 rfl (lv_at hl 0 rfl) ?_
  refine va_get (D := D) (ci := cWx) (C := RX4) (T := TX4) (N := 2) (ws := [(w, .inr (cWx, [.ref (L 0 0), .ref (L2 0 0)]))]) (v := .ref (L 0 0)) hx hb hts (by decide +kernel) hown hK (wx_one hV hS hwA) 0 rfl rfl 0 (by decide) (hts (.fieldLink RX4 10 "Waxrow" "house" "LWaxrow$House;") (by decide +kernel)) (fun _ h9 => h9) rfl dX4_ofFigure_1 ?_
  refine lv_iload_n hx hb dX4_ofFigure_4 rfl (lv_at hl 1 rfl) ?_
  refine hs_callr (As := [.int (nI f)]) ⟨hx, hb, hml, hown, hts⟩ (kX1_figureAt l D d L σ A f F hok.hF hf hok.2.1) (cwV 1 hts gX4_ofFigure_X1_figureAt rfl rfl rfl (by decide +kernel) ⟨Nat.le_of_ble_eq_true rfl, Nat.le_of_ble_eq_true rfl⟩) hK hE hW hS hs_ix0 (ci := cHo) (r := (RX1, TX1, 11)) rfl rfl rfl rfl hl.1 (Nat.le_of_ble_eq_true rfl) dX4_ofFigure_5 ⟨Nat.zero_le _, Nat.zero_le _⟩ rfl (fun H locs hW hS => ?_)
  refine lv_astore_n (lv' := [(3, .ref (L 9 f)), (0, .ref w), (1, .int (nI f)), (2, .int (nI 5))]) hx hb dX4_ofFigure_8 rfl hl (by decide) rfl (fun ls hl => ?_)
  refine lv_iload_n hx hb dX4_ofFigure_9 rfl (lv_at hl 3 rfl) ?_
  refine lv_iconst (v := 0) hx hb dX4_ofFigure_10 (by decide) ?_
  refine lv_bipush (v := 11) hx hb dX4_ofFigure_11 (by decide) ?_
  refine hs_runv (As := [.int (nI 5), .int 0, .int 11]) ⟨hx, hb, hml, hown, hts⟩ (kX4_checkArgument l D d L σ A (nI 5) 0 11 (by decide +kernel) (by decide +kernel)) (va_cwS 3 hts gX4_ofFigure_X4_checkArgument rfl rfl rfl (by decide +kernel) ⟨Nat.le_of_ble_eq_true rfl, Nat.le_of_ble_eq_true rfl⟩) hK hE hW hS rfl hl.1 (Nat.le_of_ble_eq_true rfl) dX4_ofFigure_13 ⟨Nat.zero_le _, Nat.zero_le _⟩ rfl (fun τ_ H locs hp hW hS => ?_)
  obtain rfl := hp
  refine lv_iload_n hx hb dX4_ofFigure_16 rfl (lv_at hl 3 rfl) ?_
  refine lv_tableIn (off := 90) (tgt := 107) hx hb dX4_ofFigure_17 (by decide +kernel) (by decide +kernel) (by decide +kernel) (by decide) ?_
  refine lv_aload_n hx hb dX4_ofFigure_107 rfl (lv_at hl 0 rfl) ?_
  refine va_get (D := D) (ci := cFi) (C := RX0) (T := TX0) (N := 11) (ws := [(L 9 f, hs_ct d L σ 9 f)]) (v := .int (σ 9 f 5)) hx hb hts (by decide +kernel) hown hK (hW.one (hs_ix9 (show f < 8 by omega))) 0 rfl rfl 5 (by decide) (hts (.fieldLink RX4 204 "Waxrow$Figure" "flaw" "I") (by decide +kernel)) (fun _ h9 => h9) rfl dX4_ofFigure_108 ?_
  exact W.iret (v := σ 9 f 5) hx hb hr (fun t ht hW9 => ⟨⟨(σ 9 f 5), σ, rfl, ⟨rfl, rfl⟩, ⟨by rw [ht]; exact hW, va_K.moved hW9.alike hK⟩⟩, hS.F ht⟩) hS.2.2 dX4_ofFigure_111
set_option maxHeartbeats 4000000 in
set_option maxRecDepth 100000 in
/-- ofFigure -/
theorem kX4_ofFigure_6 (l : Launch) (D : va_G) (d : hs_Dm) (L : hs_Lo) (σ : hs_St) (A : Nat → Prop) (w : Nat) (L2 : hs_Lo) (hwA : ¬ A w) (P F R : Nat) (hok : hs_ok P F R σ) (f : Nat) (hf : f < F) : wx_Mi l yX4_ofFigure wsX4_ofFigure ({ frames := 5, cells := 0, slots := 0, locals := 100 }) D d w L L2 σ A [.ref w, .int (nI f), .int (nI 6)] (fun r τ => sp_ofF σ f 6 = r ∧ σ = τ) := by
  refine Met.ofW (cc := cX4_ofFigure) (maxL := 4) (ret := (some .int)) (by decide) rfl ?_
  intro p e s m args below meth c s₁ B hml hv
  obtain ⟨rfl, ⟨⟨hW, hK⟩, hX⟩, hV⟩ := hv
  have hE := hX.1
  have hx := B.exec
  have hb := B.bytes
  have hr := B.returns
  have hts := atoms_spec (ws := wsX4_ofFigure) B.pre
  have hown : s.vm.findClass RX4 = some m.cls := findClass_of_methodNamed B.named
  have hlocks := B.notSynchronized
  have hS : va_S A s.heap s.heap [] := va_S.rf
  have hW : hs_W D d L σ A s.heap := hW
  have hl := lv_entry ([.ref w, .int (nI f), .int (nI 6)]) (n := 4) (Nat.le_of_ble_eq_true rfl)
  rw [lg_entry_eq]
  generalize (lg_sl ([.ref w, .int (nI f), .int (nI 6)]) ++ List.replicate (4 - (lg_sl ([.ref w, .int (nI f), .int (nI 6)])).length) Slot.unset).toArray = ls at hl ⊢
  have hl : lv_has ls 4 [(0, .ref w), (1, .int (nI f)), (2, .int (nI 6))] := hl
  have h10 := hok.1
  have h8 := hok.2.1
  have h5 := hok.2.2.1
  have hd_ := hok.hd
  refine lv_aload_n hx hb dX4_ofFigure_0 rfl (lv_at hl 0 rfl) ?_
  refine va_get (D := D) (ci := cWx) (C := RX4) (T := TX4) (N := 2) (ws := [(w, .inr (cWx, [.ref (L 0 0), .ref (L2 0 0)]))]) (v := .ref (L 0 0)) hx hb hts (by decide +kernel) hown hK (wx_one hV hS hwA) 0 rfl rfl 0 (by decide) (hts (.fieldLink RX4 10 "Waxrow" "house" "LWaxrow$House;") (by decide +kernel)) (fun _ h9 => h9) rfl dX4_ofFigure_1 ?_
  refine lv_iload_n hx hb dX4_ofFigure_4 rfl (lv_at hl 1 rfl) ?_
  refine hs_callr (As := [.int (nI f)]) ⟨hx, hb, hml, hown, hts⟩ (kX1_figureAt l D d L σ A f F hok.hF hf hok.2.1) (cwV 1 hts gX4_ofFigure_X1_figureAt rfl rfl rfl (by decide +kernel) ⟨Nat.le_of_ble_eq_true rfl, Nat.le_of_ble_eq_true rfl⟩) hK hE hW hS hs_ix0 (ci := cHo) (r := (RX1, TX1, 11)) rfl rfl rfl rfl hl.1 (Nat.le_of_ble_eq_true rfl) dX4_ofFigure_5 ⟨Nat.zero_le _, Nat.zero_le _⟩ rfl (fun H locs hW hS => ?_)
  refine lv_astore_n (lv' := [(3, .ref (L 9 f)), (0, .ref w), (1, .int (nI f)), (2, .int (nI 6))]) hx hb dX4_ofFigure_8 rfl hl (by decide) rfl (fun ls hl => ?_)
  refine lv_iload_n hx hb dX4_ofFigure_9 rfl (lv_at hl 3 rfl) ?_
  refine lv_iconst (v := 0) hx hb dX4_ofFigure_10 (by decide) ?_
  refine lv_bipush (v := 11) hx hb dX4_ofFigure_11 (by decide) ?_
  refine hs_runv (As := [.int (nI 6), .int 0, .int 11]) ⟨hx, hb, hml, hown, hts⟩ (kX4_checkArgument l D d L σ A (nI 6) 0 11 (by decide +kernel) (by decide +kernel)) (va_cwS 3 hts gX4_ofFigure_X4_checkArgument rfl rfl rfl (by decide +kernel) ⟨Nat.le_of_ble_eq_true rfl, Nat.le_of_ble_eq_true rfl⟩) hK hE hW hS rfl hl.1 (Nat.le_of_ble_eq_true rfl) dX4_ofFigure_13 ⟨Nat.zero_le _, Nat.zero_le _⟩ rfl (fun τ_ H locs hp hW hS => ?_)
  obtain rfl := hp
  refine lv_iload_n hx hb dX4_ofFigure_16 rfl (lv_at hl 3 rfl) ?_
  refine lv_tableIn (off := 95) (tgt := 112) hx hb dX4_ofFigure_17 (by decide +kernel) (by decide +kernel) (by decide +kernel) (by decide) ?_
  refine lv_aload_n hx hb dX4_ofFigure_112 rfl (lv_at hl 0 rfl) ?_
  refine va_get (D := D) (ci := cFi) (C := RX0) (T := TX0) (N := 11) (ws := [(L 9 f, hs_ct d L σ 9 f)]) (v := .int (σ 9 f 6)) hx hb hts (by decide +kernel) hown hK (hW.one (hs_ix9 (show f < 8 by omega))) 0 rfl rfl 6 (by decide) (hts (.fieldLink RX4 131 "Waxrow$Figure" "wear" "I") (by decide +kernel)) (fun _ h9 => h9) rfl dX4_ofFigure_113 ?_
  exact W.iret (v := σ 9 f 6) hx hb hr (fun t ht hW9 => ⟨⟨(σ 9 f 6), σ, rfl, ⟨rfl, rfl⟩, ⟨by rw [ht]; exact hW, va_K.moved hW9.alike hK⟩⟩, hS.F ht⟩) hS.2.2 dX4_ofFigure_116
set_option maxHeartbeats 4000000 in
set_option maxRecDepth 100000 in
/-- ofFigure -/
theorem kX4_ofFigure_7 (l : Launch) (D : va_G) (d : hs_Dm) (L : hs_Lo) (σ : hs_St) (A : Nat → Prop) (w : Nat) (L2 : hs_Lo) (hwA : ¬ A w) (P F R : Nat) (hok : hs_ok P F R σ) (f : Nat) (hf : f < F) : wx_Mi l yX4_ofFigure wsX4_ofFigure ({ frames := 5, cells := 0, slots := 0, locals := 100 }) D d w L L2 σ A [.ref w, .int (nI f), .int (nI 7)] (fun r τ => sp_ofF σ f 7 = r ∧ σ = τ) := by
  refine Met.ofW (cc := cX4_ofFigure) (maxL := 4) (ret := (some .int)) (by decide) rfl ?_
  intro p e s m args below meth c s₁ B hml hv
  obtain ⟨rfl, ⟨⟨hW, hK⟩, hX⟩, hV⟩ := hv
  have hE := hX.1
  have hx := B.exec
  have hb := B.bytes
  have hr := B.returns
  have hts := atoms_spec (ws := wsX4_ofFigure) B.pre
  have hown : s.vm.findClass RX4 = some m.cls := findClass_of_methodNamed B.named
  have hlocks := B.notSynchronized
  have hS : va_S A s.heap s.heap [] := va_S.rf
  have hW : hs_W D d L σ A s.heap := hW
  have hl := lv_entry ([.ref w, .int (nI f), .int (nI 7)]) (n := 4) (Nat.le_of_ble_eq_true rfl)
  rw [lg_entry_eq]
  generalize (lg_sl ([.ref w, .int (nI f), .int (nI 7)]) ++ List.replicate (4 - (lg_sl ([.ref w, .int (nI f), .int (nI 7)])).length) Slot.unset).toArray = ls at hl ⊢
  have hl : lv_has ls 4 [(0, .ref w), (1, .int (nI f)), (2, .int (nI 7))] := hl
  have h10 := hok.1
  have h8 := hok.2.1
  have h5 := hok.2.2.1
  have hd_ := hok.hd
  refine lv_aload_n hx hb dX4_ofFigure_0 rfl (lv_at hl 0 rfl) ?_
  refine va_get (D := D) (ci := cWx) (C := RX4) (T := TX4) (N := 2) (ws := [(w, .inr (cWx, [.ref (L 0 0), .ref (L2 0 0)]))]) (v := .ref (L 0 0)) hx hb hts (by decide +kernel) hown hK (wx_one hV hS hwA) 0 rfl rfl 0 (by decide) (hts (.fieldLink RX4 10 "Waxrow" "house" "LWaxrow$House;") (by decide +kernel)) (fun _ h9 => h9) rfl dX4_ofFigure_1 ?_
  refine lv_iload_n hx hb dX4_ofFigure_4 rfl (lv_at hl 1 rfl) ?_
  refine hs_callr (As := [.int (nI f)]) ⟨hx, hb, hml, hown, hts⟩ (kX1_figureAt l D d L σ A f F hok.hF hf hok.2.1) (cwV 1 hts gX4_ofFigure_X1_figureAt rfl rfl rfl (by decide +kernel) ⟨Nat.le_of_ble_eq_true rfl, Nat.le_of_ble_eq_true rfl⟩) hK hE hW hS hs_ix0 (ci := cHo) (r := (RX1, TX1, 11)) rfl rfl rfl rfl hl.1 (Nat.le_of_ble_eq_true rfl) dX4_ofFigure_5 ⟨Nat.zero_le _, Nat.zero_le _⟩ rfl (fun H locs hW hS => ?_)
  refine lv_astore_n (lv' := [(3, .ref (L 9 f)), (0, .ref w), (1, .int (nI f)), (2, .int (nI 7))]) hx hb dX4_ofFigure_8 rfl hl (by decide) rfl (fun ls hl => ?_)
  refine lv_iload_n hx hb dX4_ofFigure_9 rfl (lv_at hl 3 rfl) ?_
  refine lv_iconst (v := 0) hx hb dX4_ofFigure_10 (by decide) ?_
  refine lv_bipush (v := 11) hx hb dX4_ofFigure_11 (by decide) ?_
  refine hs_runv (As := [.int (nI 7), .int 0, .int 11]) ⟨hx, hb, hml, hown, hts⟩ (kX4_checkArgument l D d L σ A (nI 7) 0 11 (by decide +kernel) (by decide +kernel)) (va_cwS 3 hts gX4_ofFigure_X4_checkArgument rfl rfl rfl (by decide +kernel) ⟨Nat.le_of_ble_eq_true rfl, Nat.le_of_ble_eq_true rfl⟩) hK hE hW hS rfl hl.1 (Nat.le_of_ble_eq_true rfl) dX4_ofFigure_13 ⟨Nat.zero_le _, Nat.zero_le _⟩ rfl (fun τ_ H locs hp hW hS => ?_)
  obtain rfl := hp
  refine lv_iload_n hx hb dX4_ofFigure_16 rfl (lv_at hl 3 rfl) ?_
  refine lv_tableIn (off := 100) (tgt := 117) hx hb dX4_ofFigure_17 (by decide +kernel) (by decide +kernel) (by decide +kernel) (by decide) ?_
  refine lv_aload_n hx hb dX4_ofFigure_117 rfl (lv_at hl 0 rfl) ?_
  refine hs_calli (As := []) ⟨hx, hb, hml, hown, hts⟩ (kX0_likeness l D d L σ A f (show f < 8 by omega) hok.hd) (cwV 0 hts gX4_ofFigure_X0_likeness rfl rfl rfl (by decide +kernel) ⟨Nat.le_of_ble_eq_true rfl, Nat.le_of_ble_eq_true rfl⟩) hK hE hW hS (hs_ix9 (show f < 8 by omega)) (ci := cFi) (r := (RX0, TX0, 11)) rfl rfl rfl rfl hl.1 (Nat.le_of_ble_eq_true rfl) dX4_ofFigure_118 ⟨Nat.zero_le _, Nat.zero_le _⟩ rfl (fun r_ τ_ H locs hp hW hS => ?_)
  obtain ⟨rfl, rfl⟩ := hp
  exact W.iret (v := sp_likeness σ f) hx hb hr (fun t ht hW9 => ⟨⟨(sp_likeness σ f), σ, rfl, ⟨rfl, rfl⟩, ⟨by rw [ht]; exact hW, va_K.moved hW9.alike hK⟩⟩, hS.F ht⟩) hS.2.2 dX4_ofFigure_121
set_option maxHeartbeats 4000000 in
set_option maxRecDepth 100000 in
/-- ofFigure -/
theorem kX4_ofFigure_8 (l : Launch) (D : va_G) (d : hs_Dm) (L : hs_Lo) (σ : hs_St) (A : Nat → Prop) (w : Nat) (L2 : hs_Lo) (hwA : ¬ A w) (P F R : Nat) (hok : hs_ok P F R σ) (f : Nat) (hf : f < F) : wx_Mi l yX4_ofFigure wsX4_ofFigure ({ frames := 5, cells := 0, slots := 0, locals := 100 }) D d w L L2 σ A [.ref w, .int (nI f), .int (nI 8)] (fun r τ => sp_ofF σ f 8 = r ∧ σ = τ) := by
  refine Met.ofW (cc := cX4_ofFigure) (maxL := 4) (ret := (some .int)) (by decide) rfl ?_
  intro p e s m args below meth c s₁ B hml hv
  obtain ⟨rfl, ⟨⟨hW, hK⟩, hX⟩, hV⟩ := hv
  have hE := hX.1
  have hx := B.exec
  have hb := B.bytes
  have hr := B.returns
  have hts := atoms_spec (ws := wsX4_ofFigure) B.pre
  have hown : s.vm.findClass RX4 = some m.cls := findClass_of_methodNamed B.named
  have hlocks := B.notSynchronized
  have hS : va_S A s.heap s.heap [] := va_S.rf
  have hW : hs_W D d L σ A s.heap := hW
  have hl := lv_entry ([.ref w, .int (nI f), .int (nI 8)]) (n := 4) (Nat.le_of_ble_eq_true rfl)
  rw [lg_entry_eq]
  generalize (lg_sl ([.ref w, .int (nI f), .int (nI 8)]) ++ List.replicate (4 - (lg_sl ([.ref w, .int (nI f), .int (nI 8)])).length) Slot.unset).toArray = ls at hl ⊢
  have hl : lv_has ls 4 [(0, .ref w), (1, .int (nI f)), (2, .int (nI 8))] := hl
  have h10 := hok.1
  have h8 := hok.2.1
  have h5 := hok.2.2.1
  have hd_ := hok.hd
  refine lv_aload_n hx hb dX4_ofFigure_0 rfl (lv_at hl 0 rfl) ?_
  refine va_get (D := D) (ci := cWx) (C := RX4) (T := TX4) (N := 2) (ws := [(w, .inr (cWx, [.ref (L 0 0), .ref (L2 0 0)]))]) (v := .ref (L 0 0)) hx hb hts (by decide +kernel) hown hK (wx_one hV hS hwA) 0 rfl rfl 0 (by decide) (hts (.fieldLink RX4 10 "Waxrow" "house" "LWaxrow$House;") (by decide +kernel)) (fun _ h9 => h9) rfl dX4_ofFigure_1 ?_
  refine lv_iload_n hx hb dX4_ofFigure_4 rfl (lv_at hl 1 rfl) ?_
  refine hs_callr (As := [.int (nI f)]) ⟨hx, hb, hml, hown, hts⟩ (kX1_figureAt l D d L σ A f F hok.hF hf hok.2.1) (cwV 1 hts gX4_ofFigure_X1_figureAt rfl rfl rfl (by decide +kernel) ⟨Nat.le_of_ble_eq_true rfl, Nat.le_of_ble_eq_true rfl⟩) hK hE hW hS hs_ix0 (ci := cHo) (r := (RX1, TX1, 11)) rfl rfl rfl rfl hl.1 (Nat.le_of_ble_eq_true rfl) dX4_ofFigure_5 ⟨Nat.zero_le _, Nat.zero_le _⟩ rfl (fun H locs hW hS => ?_)
  refine lv_astore_n (lv' := [(3, .ref (L 9 f)), (0, .ref w), (1, .int (nI f)), (2, .int (nI 8))]) hx hb dX4_ofFigure_8 rfl hl (by decide) rfl (fun ls hl => ?_)
  refine lv_iload_n hx hb dX4_ofFigure_9 rfl (lv_at hl 3 rfl) ?_
  refine lv_iconst (v := 0) hx hb dX4_ofFigure_10 (by decide) ?_
  refine lv_bipush (v := 11) hx hb dX4_ofFigure_11 (by decide) ?_
  refine hs_runv (As := [.int (nI 8), .int 0, .int 11]) ⟨hx, hb, hml, hown, hts⟩ (kX4_checkArgument l D d L σ A (nI 8) 0 11 (by decide +kernel) (by decide +kernel)) (va_cwS 3 hts gX4_ofFigure_X4_checkArgument rfl rfl rfl (by decide +kernel) ⟨Nat.le_of_ble_eq_true rfl, Nat.le_of_ble_eq_true rfl⟩) hK hE hW hS rfl hl.1 (Nat.le_of_ble_eq_true rfl) dX4_ofFigure_13 ⟨Nat.zero_le _, Nat.zero_le _⟩ rfl (fun τ_ H locs hp hW hS => ?_)
  obtain rfl := hp
  refine lv_iload_n hx hb dX4_ofFigure_16 rfl (lv_at hl 3 rfl) ?_
  refine lv_tableIn (off := 105) (tgt := 122) hx hb dX4_ofFigure_17 (by decide +kernel) (by decide +kernel) (by decide +kernel) (by decide) ?_
  refine lv_aload_n hx hb dX4_ofFigure_122 rfl (lv_at hl 0 rfl) ?_
  refine va_get (D := D) (ci := cFi) (C := RX0) (T := TX0) (N := 11) (ws := [(L 9 f, hs_ct d L σ 9 f)]) (v := .int (σ 9 f 7)) hx hb hts (by decide +kernel) hown hK (hW.one (hs_ix9 (show f < 8 by omega))) 0 rfl rfl 7 (by decide) (hts (.fieldLink RX4 110 "Waxrow$Figure" "place" "I") (by decide +kernel)) (fun _ h9 => h9) rfl dX4_ofFigure_123 ?_
  exact W.iret (v := σ 9 f 7) hx hb hr (fun t ht hW9 => ⟨⟨(σ 9 f 7), σ, rfl, ⟨rfl, rfl⟩, ⟨by rw [ht]; exact hW, va_K.moved hW9.alike hK⟩⟩, hS.F ht⟩) hS.2.2 dX4_ofFigure_126
set_option maxHeartbeats 4000000 in
set_option maxRecDepth 100000 in
/-- ofFigure -/
theorem kX4_ofFigure_9 (l : Launch) (D : va_G) (d : hs_Dm) (L : hs_Lo) (σ : hs_St) (A : Nat → Prop) (w : Nat) (L2 : hs_Lo) (hwA : ¬ A w) (P F R : Nat) (hok : hs_ok P F R σ) (f : Nat) (hf : f < F) : wx_Mi l yX4_ofFigure wsX4_ofFigure ({ frames := 5, cells := 0, slots := 0, locals := 100 }) D d w L L2 σ A [.ref w, .int (nI f), .int (nI 9)] (fun r τ => sp_ofF σ f 9 = r ∧ σ = τ) := by
  refine Met.ofW (cc := cX4_ofFigure) (maxL := 4) (ret := (some .int)) (by decide) rfl ?_
  intro p e s m args below meth c s₁ B hml hv
  obtain ⟨rfl, ⟨⟨hW, hK⟩, hX⟩, hV⟩ := hv
  have hE := hX.1
  have hx := B.exec
  have hb := B.bytes
  have hr := B.returns
  have hts := atoms_spec (ws := wsX4_ofFigure) B.pre
  have hown : s.vm.findClass RX4 = some m.cls := findClass_of_methodNamed B.named
  have hlocks := B.notSynchronized
  have hS : va_S A s.heap s.heap [] := va_S.rf
  have hW : hs_W D d L σ A s.heap := hW
  have hl := lv_entry ([.ref w, .int (nI f), .int (nI 9)]) (n := 4) (Nat.le_of_ble_eq_true rfl)
  rw [lg_entry_eq]
  generalize (lg_sl ([.ref w, .int (nI f), .int (nI 9)]) ++ List.replicate (4 - (lg_sl ([.ref w, .int (nI f), .int (nI 9)])).length) Slot.unset).toArray = ls at hl ⊢
  have hl : lv_has ls 4 [(0, .ref w), (1, .int (nI f)), (2, .int (nI 9))] := hl
  have h10 := hok.1
  have h8 := hok.2.1
  have h5 := hok.2.2.1
  have hd_ := hok.hd
  refine lv_aload_n hx hb dX4_ofFigure_0 rfl (lv_at hl 0 rfl) ?_
  refine va_get (D := D) (ci := cWx) (C := RX4) (T := TX4) (N := 2) (ws := [(w, .inr (cWx, [.ref (L 0 0), .ref (L2 0 0)]))]) (v := .ref (L 0 0)) hx hb hts (by decide +kernel) hown hK (wx_one hV hS hwA) 0 rfl rfl 0 (by decide) (hts (.fieldLink RX4 10 "Waxrow" "house" "LWaxrow$House;") (by decide +kernel)) (fun _ h9 => h9) rfl dX4_ofFigure_1 ?_
  refine lv_iload_n hx hb dX4_ofFigure_4 rfl (lv_at hl 1 rfl) ?_
  refine hs_callr (As := [.int (nI f)]) ⟨hx, hb, hml, hown, hts⟩ (kX1_figureAt l D d L σ A f F hok.hF hf hok.2.1) (cwV 1 hts gX4_ofFigure_X1_figureAt rfl rfl rfl (by decide +kernel) ⟨Nat.le_of_ble_eq_true rfl, Nat.le_of_ble_eq_true rfl⟩) hK hE hW hS hs_ix0 (ci := cHo) (r := (RX1, TX1, 11)) rfl rfl rfl rfl hl.1 (Nat.le_of_ble_eq_true rfl) dX4_ofFigure_5 ⟨Nat.zero_le _, Nat.zero_le _⟩ rfl (fun H locs hW hS => ?_)
  refine lv_astore_n (lv' := [(3, .ref (L 9 f)), (0, .ref w), (1, .int (nI f)), (2, .int (nI 9))]) hx hb dX4_ofFigure_8 rfl hl (by decide) rfl (fun ls hl => ?_)
  refine lv_iload_n hx hb dX4_ofFigure_9 rfl (lv_at hl 3 rfl) ?_
  refine lv_iconst (v := 0) hx hb dX4_ofFigure_10 (by decide) ?_
  refine lv_bipush (v := 11) hx hb dX4_ofFigure_11 (by decide) ?_
  refine hs_runv (As := [.int (nI 9), .int 0, .int 11]) ⟨hx, hb, hml, hown, hts⟩ (kX4_checkArgument l D d L σ A (nI 9) 0 11 (by decide +kernel) (by decide +kernel)) (va_cwS 3 hts gX4_ofFigure_X4_checkArgument rfl rfl rfl (by decide +kernel) ⟨Nat.le_of_ble_eq_true rfl, Nat.le_of_ble_eq_true rfl⟩) hK hE hW hS rfl hl.1 (Nat.le_of_ble_eq_true rfl) dX4_ofFigure_13 ⟨Nat.zero_le _, Nat.zero_le _⟩ rfl (fun τ_ H locs hp hW hS => ?_)
  obtain rfl := hp
  refine lv_iload_n hx hb dX4_ofFigure_16 rfl (lv_at hl 3 rfl) ?_
  refine lv_tableIn (off := 110) (tgt := 127) hx hb dX4_ofFigure_17 (by decide +kernel) (by decide +kernel) (by decide +kernel) (by decide) ?_
  refine lv_aload_n hx hb dX4_ofFigure_127 rfl (lv_at hl 0 rfl) ?_
  refine va_get (D := D) (ci := cFi) (C := RX0) (T := TX0) (N := 11) (ws := [(L 9 f, hs_ct d L σ 9 f)]) (v := .int (σ 9 f 9)) hx hb hts (by decide +kernel) hown hK (hW.one (hs_ix9 (show f < 8 by omega))) 0 rfl rfl 9 (by decide) (hts (.fieldLink RX4 147 "Waxrow$Figure" "tourDays" "I") (by decide +kernel)) (fun _ h9 => h9) rfl dX4_ofFigure_128 ?_
  exact W.iret (v := σ 9 f 9) hx hb hr (fun t ht hW9 => ⟨⟨(σ 9 f 9), σ, rfl, ⟨rfl, rfl⟩, ⟨by rw [ht]; exact hW, va_K.moved hW9.alike hK⟩⟩, hS.F ht⟩) hS.2.2 dX4_ofFigure_131
set_option maxHeartbeats 4000000 in
set_option maxRecDepth 100000 in
/-- ofFigure -/
theorem kX4_ofFigure_10 (l : Launch) (D : va_G) (d : hs_Dm) (L : hs_Lo) (σ : hs_St) (A : Nat → Prop) (w : Nat) (L2 : hs_Lo) (hwA : ¬ A w) (P F R : Nat) (hok : hs_ok P F R σ) (f : Nat) (hf : f < F) : wx_Mi l yX4_ofFigure wsX4_ofFigure ({ frames := 5, cells := 0, slots := 0, locals := 100 }) D d w L L2 σ A [.ref w, .int (nI f), .int (nI 10)] (fun r τ => sp_ofF σ f 10 = r ∧ σ = τ) := by
  refine Met.ofW (cc := cX4_ofFigure) (maxL := 4) (ret := (some .int)) (by decide) rfl ?_
  intro p e s m args below meth c s₁ B hml hv
  obtain ⟨rfl, ⟨⟨hW, hK⟩, hX⟩, hV⟩ := hv
  have hE := hX.1
  have hx := B.exec
  have hb := B.bytes
  have hr := B.returns
  have hts := atoms_spec (ws := wsX4_ofFigure) B.pre
  have hown : s.vm.findClass RX4 = some m.cls := findClass_of_methodNamed B.named
  have hlocks := B.notSynchronized
  have hS : va_S A s.heap s.heap [] := va_S.rf
  have hW : hs_W D d L σ A s.heap := hW
  have hl := lv_entry ([.ref w, .int (nI f), .int (nI 10)]) (n := 4) (Nat.le_of_ble_eq_true rfl)
  rw [lg_entry_eq]
  generalize (lg_sl ([.ref w, .int (nI f), .int (nI 10)]) ++ List.replicate (4 - (lg_sl ([.ref w, .int (nI f), .int (nI 10)])).length) Slot.unset).toArray = ls at hl ⊢
  have hl : lv_has ls 4 [(0, .ref w), (1, .int (nI f)), (2, .int (nI 10))] := hl
  have h10 := hok.1
  have h8 := hok.2.1
  have h5 := hok.2.2.1
  have hd_ := hok.hd
  refine lv_aload_n hx hb dX4_ofFigure_0 rfl (lv_at hl 0 rfl) ?_
  refine va_get (D := D) (ci := cWx) (C := RX4) (T := TX4) (N := 2) (ws := [(w, .inr (cWx, [.ref (L 0 0), .ref (L2 0 0)]))]) (v := .ref (L 0 0)) hx hb hts (by decide +kernel) hown hK (wx_one hV hS hwA) 0 rfl rfl 0 (by decide) (hts (.fieldLink RX4 10 "Waxrow" "house" "LWaxrow$House;") (by decide +kernel)) (fun _ h9 => h9) rfl dX4_ofFigure_1 ?_
  refine lv_iload_n hx hb dX4_ofFigure_4 rfl (lv_at hl 1 rfl) ?_
  refine hs_callr (As := [.int (nI f)]) ⟨hx, hb, hml, hown, hts⟩ (kX1_figureAt l D d L σ A f F hok.hF hf hok.2.1) (cwV 1 hts gX4_ofFigure_X1_figureAt rfl rfl rfl (by decide +kernel) ⟨Nat.le_of_ble_eq_true rfl, Nat.le_of_ble_eq_true rfl⟩) hK hE hW hS hs_ix0 (ci := cHo) (r := (RX1, TX1, 11)) rfl rfl rfl rfl hl.1 (Nat.le_of_ble_eq_true rfl) dX4_ofFigure_5 ⟨Nat.zero_le _, Nat.zero_le _⟩ rfl (fun H locs hW hS => ?_)
  refine lv_astore_n (lv' := [(3, .ref (L 9 f)), (0, .ref w), (1, .int (nI f)), (2, .int (nI 10))]) hx hb dX4_ofFigure_8 rfl hl (by decide) rfl (fun ls hl => ?_)
  refine lv_iload_n hx hb dX4_ofFigure_9 rfl (lv_at hl 3 rfl) ?_
  refine lv_iconst (v := 0) hx hb dX4_ofFigure_10 (by decide) ?_
  refine lv_bipush (v := 11) hx hb dX4_ofFigure_11 (by decide) ?_
  refine hs_runv (As := [.int (nI 10), .int 0, .int 11]) ⟨hx, hb, hml, hown, hts⟩ (kX4_checkArgument l D d L σ A (nI 10) 0 11 (by decide +kernel) (by decide +kernel)) (va_cwS 3 hts gX4_ofFigure_X4_checkArgument rfl rfl rfl (by decide +kernel) ⟨Nat.le_of_ble_eq_true rfl, Nat.le_of_ble_eq_true rfl⟩) hK hE hW hS rfl hl.1 (Nat.le_of_ble_eq_true rfl) dX4_ofFigure_13 ⟨Nat.zero_le _, Nat.zero_le _⟩ rfl (fun τ_ H locs hp hW hS => ?_)
  obtain rfl := hp
  refine lv_iload_n hx hb dX4_ofFigure_16 rfl (lv_at hl 3 rfl) ?_
  refine lv_tableIn (off := 115) (tgt := 132) hx hb dX4_ofFigure_17 (by decide +kernel) (by decide +kernel) (by decide +kernel) (by decide) ?_
  refine lv_aload_n hx hb dX4_ofFigure_132 rfl (lv_at hl 0 rfl) ?_
  refine hs_calli (As := []) ⟨hx, hb, hml, hown, hts⟩ (kX0_draw l D d L σ A f (show f < 8 by omega) hd_) (cwV 0 hts gX4_ofFigure_X0_draw rfl rfl rfl (by decide +kernel) ⟨Nat.le_of_ble_eq_true rfl, Nat.le_of_ble_eq_true rfl⟩) hK hE hW hS (hs_ix9 (show f < 8 by omega)) (ci := cFi) (r := (RX0, TX0, 11)) rfl rfl rfl rfl hl.1 (Nat.le_of_ble_eq_true rfl) dX4_ofFigure_133 ⟨Nat.zero_le _, Nat.zero_le _⟩ rfl (fun r_ τ_ H locs hp hW hS => ?_)
  obtain ⟨rfl, rfl⟩ := hp
  exact W.iret (v := sp_draw σ f) hx hb hr (fun t ht hW9 => ⟨⟨(sp_draw σ f), σ, rfl, ⟨rfl, rfl⟩, ⟨by rw [ht]; exact hW, va_K.moved hW9.alike hK⟩⟩, hS.F ht⟩) hS.2.2 dX4_ofFigure_136
set_option maxHeartbeats 4000000 in
set_option maxRecDepth 100000 in
/-- ofFigure -/
theorem kX4_ofFigure_11 (l : Launch) (D : va_G) (d : hs_Dm) (L : hs_Lo) (σ : hs_St) (A : Nat → Prop) (w : Nat) (L2 : hs_Lo) (hwA : ¬ A w) (P F R : Nat) (hok : hs_ok P F R σ) (f : Nat) (hf : f < F) : wx_Mi l yX4_ofFigure wsX4_ofFigure ({ frames := 5, cells := 0, slots := 0, locals := 100 }) D d w L L2 σ A [.ref w, .int (nI f), .int (nI 11)] (fun r τ => sp_ofF σ f 11 = r ∧ σ = τ) := by
  refine Met.ofW (cc := cX4_ofFigure) (maxL := 4) (ret := (some .int)) (by decide) rfl ?_
  intro p e s m args below meth c s₁ B hml hv
  obtain ⟨rfl, ⟨⟨hW, hK⟩, hX⟩, hV⟩ := hv
  have hE := hX.1
  have hx := B.exec
  have hb := B.bytes
  have hr := B.returns
  have hts := atoms_spec (ws := wsX4_ofFigure) B.pre
  have hown : s.vm.findClass RX4 = some m.cls := findClass_of_methodNamed B.named
  have hlocks := B.notSynchronized
  have hS : va_S A s.heap s.heap [] := va_S.rf
  have hW : hs_W D d L σ A s.heap := hW
  have hl := lv_entry ([.ref w, .int (nI f), .int (nI 11)]) (n := 4) (Nat.le_of_ble_eq_true rfl)
  rw [lg_entry_eq]
  generalize (lg_sl ([.ref w, .int (nI f), .int (nI 11)]) ++ List.replicate (4 - (lg_sl ([.ref w, .int (nI f), .int (nI 11)])).length) Slot.unset).toArray = ls at hl ⊢
  have hl : lv_has ls 4 [(0, .ref w), (1, .int (nI f)), (2, .int (nI 11))] := hl
  have h10 := hok.1
  have h8 := hok.2.1
  have h5 := hok.2.2.1
  have hd_ := hok.hd
  refine lv_aload_n hx hb dX4_ofFigure_0 rfl (lv_at hl 0 rfl) ?_
  refine va_get (D := D) (ci := cWx) (C := RX4) (T := TX4) (N := 2) (ws := [(w, .inr (cWx, [.ref (L 0 0), .ref (L2 0 0)]))]) (v := .ref (L 0 0)) hx hb hts (by decide +kernel) hown hK (wx_one hV hS hwA) 0 rfl rfl 0 (by decide) (hts (.fieldLink RX4 10 "Waxrow" "house" "LWaxrow$House;") (by decide +kernel)) (fun _ h9 => h9) rfl dX4_ofFigure_1 ?_
  refine lv_iload_n hx hb dX4_ofFigure_4 rfl (lv_at hl 1 rfl) ?_
  refine hs_callr (As := [.int (nI f)]) ⟨hx, hb, hml, hown, hts⟩ (kX1_figureAt l D d L σ A f F hok.hF hf hok.2.1) (cwV 1 hts gX4_ofFigure_X1_figureAt rfl rfl rfl (by decide +kernel) ⟨Nat.le_of_ble_eq_true rfl, Nat.le_of_ble_eq_true rfl⟩) hK hE hW hS hs_ix0 (ci := cHo) (r := (RX1, TX1, 11)) rfl rfl rfl rfl hl.1 (Nat.le_of_ble_eq_true rfl) dX4_ofFigure_5 ⟨Nat.zero_le _, Nat.zero_le _⟩ rfl (fun H locs hW hS => ?_)
  refine lv_astore_n (lv' := [(3, .ref (L 9 f)), (0, .ref w), (1, .int (nI f)), (2, .int (nI 11))]) hx hb dX4_ofFigure_8 rfl hl (by decide) rfl (fun ls hl => ?_)
  refine lv_iload_n hx hb dX4_ofFigure_9 rfl (lv_at hl 3 rfl) ?_
  refine lv_iconst (v := 0) hx hb dX4_ofFigure_10 (by decide) ?_
  refine lv_bipush (v := 11) hx hb dX4_ofFigure_11 (by decide) ?_
  refine hs_runv (As := [.int (nI 11), .int 0, .int 11]) ⟨hx, hb, hml, hown, hts⟩ (kX4_checkArgument l D d L σ A (nI 11) 0 11 (by decide +kernel) (by decide +kernel)) (va_cwS 3 hts gX4_ofFigure_X4_checkArgument rfl rfl rfl (by decide +kernel) ⟨Nat.le_of_ble_eq_true rfl, Nat.le_of_ble_eq_true rfl⟩) hK hE hW hS rfl hl.1 (Nat.le_of_ble_eq_true rfl) dX4_ofFigure_13 ⟨Nat.zero_le _, Nat.zero_le _⟩ rfl (fun τ_ H locs hp hW hS => ?_)
  obtain rfl := hp
  refine lv_iload_n hx hb dX4_ofFigure_16 rfl (lv_at hl 3 rfl) ?_
  refine lv_tableOut (tgt := 137) hx hb dX4_ofFigure_17 (by decide +kernel) (by decide) ?_
  refine lv_aload_n hx hb dX4_ofFigure_137 rfl (lv_at hl 0 rfl) ?_
  refine va_get (D := D) (ci := cFi) (C := RX0) (T := TX0) (N := 11) (ws := [(L 9 f, hs_ct d L σ 9 f)]) (v := .int (σ 9 f 10)) hx hb hts (by decide +kernel) hown hK (hW.one (hs_ix9 (show f < 8 by omega))) 0 rfl rfl 10 (by decide) (hts (.fieldLink RX4 207 "Waxrow$Figure" "touched" "I") (by decide +kernel)) (fun _ h9 => h9) rfl dX4_ofFigure_138 ?_
  exact W.iret (v := σ 9 f 10) hx hb hr (fun t ht hW9 => ⟨⟨(σ 9 f 10), σ, rfl, ⟨rfl, rfl⟩, ⟨by rw [ht]; exact hW, va_K.moved hW9.alike hK⟩⟩, hS.F ht⟩) hS.2.2 dX4_ofFigure_141
set_option maxHeartbeats 4000000 in
set_option maxRecDepth 100000 in
/-- ofRoom -/
theorem kX4_ofRoom_0 (l : Launch) (D : va_G) (d : hs_Dm) (L : hs_Lo) (σ : hs_St) (A : Nat → Prop) (w : Nat) (L2 : hs_Lo) (hwA : ¬ A w) (P F R : Nat) (hok : hs_ok P F R σ) (r : Nat) (hr5 : r < R) : wx_Mi l yX4_ofRoom wsX4_ofRoom ({ frames := 5, cells := 0, slots := 0, locals := 100 }) D d w L L2 σ A [.ref w, .int (nI r), .int (nI 0)] (fun u τ => sp_ofR σ F r 0 = u ∧ σ = τ) := by
  refine Met.ofW (cc := cX4_ofRoom) (maxL := 4) (ret := (some .int)) (by decide) rfl ?_
  intro p e s m args below meth c s₁ B hml hv
  obtain ⟨rfl, ⟨⟨hW, hK⟩, hX⟩, hV⟩ := hv
  have hE := hX.1
  have hx := B.exec
  have hb := B.bytes
  have hr := B.returns
  have hts := atoms_spec (ws := wsX4_ofRoom) B.pre
  have hown : s.vm.findClass RX4 = some m.cls := findClass_of_methodNamed B.named
  have hlocks := B.notSynchronized
  have hS : va_S A s.heap s.heap [] := va_S.rf
  have hW : hs_W D d L σ A s.heap := hW
  have hl := lv_entry ([.ref w, .int (nI r), .int (nI 0)]) (n := 4) (Nat.le_of_ble_eq_true rfl)
  rw [lg_entry_eq]
  generalize (lg_sl ([.ref w, .int (nI r), .int (nI 0)]) ++ List.replicate (4 - (lg_sl ([.ref w, .int (nI r), .int (nI 0)])).length) Slot.unset).toArray = ls at hl ⊢
  have hl : lv_has ls 4 [(0, .ref w), (1, .int (nI r)), (2, .int (nI 0))] := hl
  have h10 := hok.1
  have h8 := hok.2.1
  have h5 := hok.2.2.1
  have hd_ := hok.hd
  refine lv_aload_n hx hb dX4_ofRoom_0 rfl (lv_at hl 0 rfl) ?_
  refine va_get (D := D) (ci := cWx) (C := RX4) (T := TX4) (N := 2) (ws := [(w, .inr (cWx, [.ref (L 0 0), .ref (L2 0 0)]))]) (v := .ref (L 0 0)) hx hb hts (by decide +kernel) hown hK (wx_one hV hS hwA) 0 rfl rfl 0 (by decide) (hts (.fieldLink RX4 10 "Waxrow" "house" "LWaxrow$House;") (by decide +kernel)) (fun _ h9 => h9) rfl dX4_ofRoom_1 ?_
  refine lv_iload_n hx hb dX4_ofRoom_4 rfl (lv_at hl 1 rfl) ?_
  refine hs_callr (As := [.int (nI r)]) ⟨hx, hb, hml, hown, hts⟩ (kX1_roomAt l D d L σ A r R hok.hR hr5 hok.2.2.1) (cwV 1 hts gX4_ofRoom_X1_roomAt rfl rfl rfl (by decide +kernel) ⟨Nat.le_of_ble_eq_true rfl, Nat.le_of_ble_eq_true rfl⟩) hK hE hW hS hs_ix0 (ci := cHo) (r := (RX1, TX1, 11)) rfl rfl rfl rfl hl.1 (Nat.le_of_ble_eq_true rfl) dX4_ofRoom_5 ⟨Nat.zero_le _, Nat.zero_le _⟩ rfl (fun H locs hW hS => ?_)
  refine lv_astore_n (lv' := [(3, .ref (L 10 r)), (0, .ref w), (1, .int (nI r)), (2, .int (nI 0))]) hx hb dX4_ofRoom_8 rfl hl (by decide) rfl (fun ls hl => ?_)
  refine lv_iload_n hx hb dX4_ofRoom_9 rfl (lv_at hl 3 rfl) ?_
  refine lv_iconst (v := 0) hx hb dX4_ofRoom_10 (by decide) ?_
  refine lv_iconst (v := 3) hx hb dX4_ofRoom_11 (by decide) ?_
  refine hs_runv (As := [.int (nI 0), .int 0, .int 3]) ⟨hx, hb, hml, hown, hts⟩ (kX4_checkArgument l D d L σ A (nI 0) 0 3 (by decide +kernel) (by decide +kernel)) (va_cwS 3 hts gX4_ofRoom_X4_checkArgument rfl rfl rfl (by decide +kernel) ⟨Nat.le_of_ble_eq_true rfl, Nat.le_of_ble_eq_true rfl⟩) hK hE hW hS rfl hl.1 (Nat.le_of_ble_eq_true rfl) dX4_ofRoom_12 ⟨Nat.zero_le _, Nat.zero_le _⟩ rfl (fun τ_ H locs hp hW hS => ?_)
  obtain rfl := hp
  refine lv_iload_n hx hb dX4_ofRoom_15 rfl (lv_at hl 3 rfl) ?_
  refine lv_tableIn (off := 28) (tgt := 44) hx hb dX4_ofRoom_16 (by decide +kernel) (by decide +kernel) (by decide +kernel) (by decide) ?_
  refine lv_aload_n hx hb dX4_ofRoom_44 rfl (lv_at hl 0 rfl) ?_
  refine va_get (D := D) (ci := cRo) (C := RX3) (T := TX3) (N := 2) (ws := [(L 10 r, hs_ct d L σ 10 r)]) (v := .int (σ 10 r 0)) hx hb hts (by decide +kernel) hown hK (hW.one (hs_ix10 (show r < 5 by omega))) 0 rfl rfl 0 (by decide) (hts (.fieldLink RX4 160 "Waxrow$Room" "lamps" "I") (by decide +kernel)) (fun _ h9 => h9) rfl dX4_ofRoom_45 ?_
  exact W.iret (v := σ 10 r 0) hx hb hr (fun t ht hW9 => ⟨⟨(σ 10 r 0), σ, rfl, ⟨rfl, rfl⟩, ⟨by rw [ht]; exact hW, va_K.moved hW9.alike hK⟩⟩, hS.F ht⟩) hS.2.2 dX4_ofRoom_48
set_option maxHeartbeats 4000000 in
set_option maxRecDepth 100000 in
/-- ofRoom -/
theorem kX4_ofRoom_1 (l : Launch) (D : va_G) (d : hs_Dm) (L : hs_Lo) (σ : hs_St) (A : Nat → Prop) (w : Nat) (L2 : hs_Lo) (hwA : ¬ A w) (P F R : Nat) (hok : hs_ok P F R σ) (r : Nat) (hr5 : r < R) : wx_Mi l yX4_ofRoom wsX4_ofRoom ({ frames := 5, cells := 0, slots := 0, locals := 100 }) D d w L L2 σ A [.ref w, .int (nI r), .int (nI 1)] (fun u τ => sp_ofR σ F r 1 = u ∧ σ = τ) := by
  refine Met.ofW (cc := cX4_ofRoom) (maxL := 4) (ret := (some .int)) (by decide) rfl ?_
  intro p e s m args below meth c s₁ B hml hv
  obtain ⟨rfl, ⟨⟨hW, hK⟩, hX⟩, hV⟩ := hv
  have hE := hX.1
  have hx := B.exec
  have hb := B.bytes
  have hr := B.returns
  have hts := atoms_spec (ws := wsX4_ofRoom) B.pre
  have hown : s.vm.findClass RX4 = some m.cls := findClass_of_methodNamed B.named
  have hlocks := B.notSynchronized
  have hS : va_S A s.heap s.heap [] := va_S.rf
  have hW : hs_W D d L σ A s.heap := hW
  have hl := lv_entry ([.ref w, .int (nI r), .int (nI 1)]) (n := 4) (Nat.le_of_ble_eq_true rfl)
  rw [lg_entry_eq]
  generalize (lg_sl ([.ref w, .int (nI r), .int (nI 1)]) ++ List.replicate (4 - (lg_sl ([.ref w, .int (nI r), .int (nI 1)])).length) Slot.unset).toArray = ls at hl ⊢
  have hl : lv_has ls 4 [(0, .ref w), (1, .int (nI r)), (2, .int (nI 1))] := hl
  have h10 := hok.1
  have h8 := hok.2.1
  have h5 := hok.2.2.1
  have hd_ := hok.hd
  refine lv_aload_n hx hb dX4_ofRoom_0 rfl (lv_at hl 0 rfl) ?_
  refine va_get (D := D) (ci := cWx) (C := RX4) (T := TX4) (N := 2) (ws := [(w, .inr (cWx, [.ref (L 0 0), .ref (L2 0 0)]))]) (v := .ref (L 0 0)) hx hb hts (by decide +kernel) hown hK (wx_one hV hS hwA) 0 rfl rfl 0 (by decide) (hts (.fieldLink RX4 10 "Waxrow" "house" "LWaxrow$House;") (by decide +kernel)) (fun _ h9 => h9) rfl dX4_ofRoom_1 ?_
  refine lv_iload_n hx hb dX4_ofRoom_4 rfl (lv_at hl 1 rfl) ?_
  refine hs_callr (As := [.int (nI r)]) ⟨hx, hb, hml, hown, hts⟩ (kX1_roomAt l D d L σ A r R hok.hR hr5 hok.2.2.1) (cwV 1 hts gX4_ofRoom_X1_roomAt rfl rfl rfl (by decide +kernel) ⟨Nat.le_of_ble_eq_true rfl, Nat.le_of_ble_eq_true rfl⟩) hK hE hW hS hs_ix0 (ci := cHo) (r := (RX1, TX1, 11)) rfl rfl rfl rfl hl.1 (Nat.le_of_ble_eq_true rfl) dX4_ofRoom_5 ⟨Nat.zero_le _, Nat.zero_le _⟩ rfl (fun H locs hW hS => ?_)
  refine lv_astore_n (lv' := [(3, .ref (L 10 r)), (0, .ref w), (1, .int (nI r)), (2, .int (nI 1))]) hx hb dX4_ofRoom_8 rfl hl (by decide) rfl (fun ls hl => ?_)
  refine lv_iload_n hx hb dX4_ofRoom_9 rfl (lv_at hl 3 rfl) ?_
  refine lv_iconst (v := 0) hx hb dX4_ofRoom_10 (by decide) ?_
  refine lv_iconst (v := 3) hx hb dX4_ofRoom_11 (by decide) ?_
  refine hs_runv (As := [.int (nI 1), .int 0, .int 3]) ⟨hx, hb, hml, hown, hts⟩ (kX4_checkArgument l D d L σ A (nI 1) 0 3 (by decide +kernel) (by decide +kernel)) (va_cwS 3 hts gX4_ofRoom_X4_checkArgument rfl rfl rfl (by decide +kernel) ⟨Nat.le_of_ble_eq_true rfl, Nat.le_of_ble_eq_true rfl⟩) hK hE hW hS rfl hl.1 (Nat.le_of_ble_eq_true rfl) dX4_ofRoom_12 ⟨Nat.zero_le _, Nat.zero_le _⟩ rfl (fun τ_ H locs hp hW hS => ?_)
  obtain rfl := hp
  refine lv_iload_n hx hb dX4_ofRoom_15 rfl (lv_at hl 3 rfl) ?_
  refine lv_tableIn (off := 33) (tgt := 49) hx hb dX4_ofRoom_16 (by decide +kernel) (by decide +kernel) (by decide +kernel) (by decide) ?_
  refine lv_aload_n hx hb dX4_ofRoom_49 rfl (lv_at hl 0 rfl) ?_
  refine va_get (D := D) (ci := cRo) (C := RX3) (T := TX3) (N := 2) (ws := [(L 10 r, hs_ct d L σ 10 r)]) (v := .int (σ 10 r 1)) hx hb hts (by decide +kernel) hown hK (hW.one (hs_ix10 (show r < 5 by omega))) 0 rfl rfl 1 (by decide) (hts (.fieldLink RX4 168 "Waxrow$Room" "spots" "I") (by decide +kernel)) (fun _ h9 => h9) rfl dX4_ofRoom_50 ?_
  exact W.iret (v := σ 10 r 1) hx hb hr (fun t ht hW9 => ⟨⟨(σ 10 r 1), σ, rfl, ⟨rfl, rfl⟩, ⟨by rw [ht]; exact hW, va_K.moved hW9.alike hK⟩⟩, hS.F ht⟩) hS.2.2 dX4_ofRoom_53
set_option maxHeartbeats 4000000 in
set_option maxRecDepth 100000 in
/-- ofRoom -/
theorem kX4_ofRoom_2 (l : Launch) (D : va_G) (d : hs_Dm) (L : hs_Lo) (σ : hs_St) (A : Nat → Prop) (w : Nat) (L2 : hs_Lo) (hwA : ¬ A w) (P F R : Nat) (hok : hs_ok P F R σ) (r : Nat) (hr5 : r < R) : wx_Mi l yX4_ofRoom wsX4_ofRoom ({ frames := 5, cells := 0, slots := 0, locals := 100 }) D d w L L2 σ A [.ref w, .int (nI r), .int (nI 2)] (fun u τ => sp_ofR σ F r 2 = u ∧ σ = τ) := by
  refine Met.ofW (cc := cX4_ofRoom) (maxL := 4) (ret := (some .int)) (by decide) rfl ?_
  intro p e s m args below meth c s₁ B hml hv
  obtain ⟨rfl, ⟨⟨hW, hK⟩, hX⟩, hV⟩ := hv
  have hE := hX.1
  have hx := B.exec
  have hb := B.bytes
  have hr := B.returns
  have hts := atoms_spec (ws := wsX4_ofRoom) B.pre
  have hown : s.vm.findClass RX4 = some m.cls := findClass_of_methodNamed B.named
  have hlocks := B.notSynchronized
  have hS : va_S A s.heap s.heap [] := va_S.rf
  have hW : hs_W D d L σ A s.heap := hW
  have hl := lv_entry ([.ref w, .int (nI r), .int (nI 2)]) (n := 4) (Nat.le_of_ble_eq_true rfl)
  rw [lg_entry_eq]
  generalize (lg_sl ([.ref w, .int (nI r), .int (nI 2)]) ++ List.replicate (4 - (lg_sl ([.ref w, .int (nI r), .int (nI 2)])).length) Slot.unset).toArray = ls at hl ⊢
  have hl : lv_has ls 4 [(0, .ref w), (1, .int (nI r)), (2, .int (nI 2))] := hl
  have h10 := hok.1
  have h8 := hok.2.1
  have h5 := hok.2.2.1
  have hd_ := hok.hd
  refine lv_aload_n hx hb dX4_ofRoom_0 rfl (lv_at hl 0 rfl) ?_
  refine va_get (D := D) (ci := cWx) (C := RX4) (T := TX4) (N := 2) (ws := [(w, .inr (cWx, [.ref (L 0 0), .ref (L2 0 0)]))]) (v := .ref (L 0 0)) hx hb hts (by decide +kernel) hown hK (wx_one hV hS hwA) 0 rfl rfl 0 (by decide) (hts (.fieldLink RX4 10 "Waxrow" "house" "LWaxrow$House;") (by decide +kernel)) (fun _ h9 => h9) rfl dX4_ofRoom_1 ?_
  refine lv_iload_n hx hb dX4_ofRoom_4 rfl (lv_at hl 1 rfl) ?_
  refine hs_callr (As := [.int (nI r)]) ⟨hx, hb, hml, hown, hts⟩ (kX1_roomAt l D d L σ A r R hok.hR hr5 hok.2.2.1) (cwV 1 hts gX4_ofRoom_X1_roomAt rfl rfl rfl (by decide +kernel) ⟨Nat.le_of_ble_eq_true rfl, Nat.le_of_ble_eq_true rfl⟩) hK hE hW hS hs_ix0 (ci := cHo) (r := (RX1, TX1, 11)) rfl rfl rfl rfl hl.1 (Nat.le_of_ble_eq_true rfl) dX4_ofRoom_5 ⟨Nat.zero_le _, Nat.zero_le _⟩ rfl (fun H locs hW hS => ?_)
  refine lv_astore_n (lv' := [(3, .ref (L 10 r)), (0, .ref w), (1, .int (nI r)), (2, .int (nI 2))]) hx hb dX4_ofRoom_8 rfl hl (by decide) rfl (fun ls hl => ?_)
  refine lv_iload_n hx hb dX4_ofRoom_9 rfl (lv_at hl 3 rfl) ?_
  refine lv_iconst (v := 0) hx hb dX4_ofRoom_10 (by decide) ?_
  refine lv_iconst (v := 3) hx hb dX4_ofRoom_11 (by decide) ?_
  refine hs_runv (As := [.int (nI 2), .int 0, .int 3]) ⟨hx, hb, hml, hown, hts⟩ (kX4_checkArgument l D d L σ A (nI 2) 0 3 (by decide +kernel) (by decide +kernel)) (va_cwS 3 hts gX4_ofRoom_X4_checkArgument rfl rfl rfl (by decide +kernel) ⟨Nat.le_of_ble_eq_true rfl, Nat.le_of_ble_eq_true rfl⟩) hK hE hW hS rfl hl.1 (Nat.le_of_ble_eq_true rfl) dX4_ofRoom_12 ⟨Nat.zero_le _, Nat.zero_le _⟩ rfl (fun τ_ H locs hp hW hS => ?_)
  obtain rfl := hp
  refine lv_iload_n hx hb dX4_ofRoom_15 rfl (lv_at hl 3 rfl) ?_
  refine lv_tableIn (off := 38) (tgt := 54) hx hb dX4_ofRoom_16 (by decide +kernel) (by decide +kernel) (by decide +kernel) (by decide) ?_
  refine lv_aload_n hx hb dX4_ofRoom_54 rfl (lv_at hl 0 rfl) ?_
  refine va_get (D := D) (ci := cRo) (C := RX3) (T := TX3) (N := 2) (ws := [(L 10 r, hs_ct d L σ 10 r)]) (v := .int (σ 10 r 1)) hx hb hts (by decide +kernel) hown hK (hW.one (hs_ix10 (show r < 5 by omega))) 0 rfl rfl 1 (by decide) (hts (.fieldLink RX4 168 "Waxrow$Room" "spots" "I") (by decide +kernel)) (fun _ h9 => h9) rfl dX4_ofRoom_55 ?_
  refine lv_aload_n hx hb dX4_ofRoom_58 rfl (lv_at hl 1 rfl) ?_
  refine va_get (D := D) (ci := cWx) (C := RX4) (T := TX4) (N := 2) (ws := [(w, .inr (cWx, [.ref (L 0 0), .ref (L2 0 0)]))]) (v := .ref (L 0 0)) hx hb hts (by decide +kernel) hown hK (wx_one hV hS hwA) 0 rfl rfl 0 (by decide) (hts (.fieldLink RX4 10 "Waxrow" "house" "LWaxrow$House;") (by decide +kernel)) (fun _ h9 => h9) rfl dX4_ofRoom_59 ?_
  refine lv_iload_n hx hb dX4_ofRoom_62 rfl (lv_at hl 2 rfl) ?_
  refine lv_iload_n hx hb dX4_ofRoom_63 rfl (lv_at hl 2 rfl) ?_
  refine hs_calli (As := [.int (nI r), .int (nI r)]) ⟨hx, hb, hml, hown, hts⟩ (kX1_figuresIn l D d L σ A (nI r) (nI r) F hok.hF hok.2.1 ) (cwV 2 hts gX4_ofRoom_X1_figuresIn rfl rfl rfl (by decide +kernel) ⟨Nat.le_of_ble_eq_true rfl, Nat.le_of_ble_eq_true rfl⟩) hK hE hW hS hs_ix0 (ci := cHo) (r := (RX1, TX1, 11)) rfl rfl rfl rfl hl.1 (Nat.le_of_ble_eq_true rfl) dX4_ofRoom_64 ⟨Nat.zero_le _, Nat.zero_le _⟩ rfl (fun r_ τ_ H locs hp hW hS => ?_)
  obtain ⟨rfl, rfl⟩ := hp
  refine lv_isub hx hb dX4_ofRoom_67 ?_
  exact W.iret (v := (σ 10 r 1) - (sp_figIn σ (nI r) (nI r) F)) hx hb hr (fun t ht hW9 => ⟨⟨((σ 10 r 1) - (sp_figIn σ (nI r) (nI r) F)), σ, rfl, ⟨rfl, rfl⟩, ⟨by rw [ht]; exact hW, va_K.moved hW9.alike hK⟩⟩, hS.F ht⟩) hS.2.2 dX4_ofRoom_68
set_option maxHeartbeats 4000000 in
set_option maxRecDepth 100000 in
/-- ofRoom -/
theorem kX4_ofRoom_3 (l : Launch) (D : va_G) (d : hs_Dm) (L : hs_Lo) (σ : hs_St) (A : Nat → Prop) (w : Nat) (L2 : hs_Lo) (hwA : ¬ A w) (P F R : Nat) (hok : hs_ok P F R σ) (r : Nat) (hr5 : r < R) : wx_Mi l yX4_ofRoom wsX4_ofRoom ({ frames := 5, cells := 0, slots := 0, locals := 100 }) D d w L L2 σ A [.ref w, .int (nI r), .int (nI 3)] (fun u τ => sp_ofR σ F r 3 = u ∧ σ = τ) := by
  refine Met.ofW (cc := cX4_ofRoom) (maxL := 4) (ret := (some .int)) (by decide) rfl ?_
  intro p e s m args below meth c s₁ B hml hv
  obtain ⟨rfl, ⟨⟨hW, hK⟩, hX⟩, hV⟩ := hv
  have hE := hX.1
  have hx := B.exec
  have hb := B.bytes
  have hr := B.returns
  have hts := atoms_spec (ws := wsX4_ofRoom) B.pre
  have hown : s.vm.findClass RX4 = some m.cls := findClass_of_methodNamed B.named
  have hlocks := B.notSynchronized
  have hS : va_S A s.heap s.heap [] := va_S.rf
  have hW : hs_W D d L σ A s.heap := hW
  have hl := lv_entry ([.ref w, .int (nI r), .int (nI 3)]) (n := 4) (Nat.le_of_ble_eq_true rfl)
  rw [lg_entry_eq]
  generalize (lg_sl ([.ref w, .int (nI r), .int (nI 3)]) ++ List.replicate (4 - (lg_sl ([.ref w, .int (nI r), .int (nI 3)])).length) Slot.unset).toArray = ls at hl ⊢
  have hl : lv_has ls 4 [(0, .ref w), (1, .int (nI r)), (2, .int (nI 3))] := hl
  have h10 := hok.1
  have h8 := hok.2.1
  have h5 := hok.2.2.1
  have hd_ := hok.hd
  refine lv_aload_n hx hb dX4_ofRoom_0 rfl (lv_at hl 0 rfl) ?_
  refine va_get (D := D) (ci := cWx) (C := RX4) (T := TX4) (N := 2) (ws := [(w, .inr (cWx, [.ref (L 0 0), .ref (L2 0 0)]))]) (v := .ref (L 0 0)) hx hb hts (by decide +kernel) hown hK (wx_one hV hS hwA) 0 rfl rfl 0 (by decide) (hts (.fieldLink RX4 10 "Waxrow" "house" "LWaxrow$House;") (by decide +kernel)) (fun _ h9 => h9) rfl dX4_ofRoom_1 ?_
  refine lv_iload_n hx hb dX4_ofRoom_4 rfl (lv_at hl 1 rfl) ?_
  refine hs_callr (As := [.int (nI r)]) ⟨hx, hb, hml, hown, hts⟩ (kX1_roomAt l D d L σ A r R hok.hR hr5 hok.2.2.1) (cwV 1 hts gX4_ofRoom_X1_roomAt rfl rfl rfl (by decide +kernel) ⟨Nat.le_of_ble_eq_true rfl, Nat.le_of_ble_eq_true rfl⟩) hK hE hW hS hs_ix0 (ci := cHo) (r := (RX1, TX1, 11)) rfl rfl rfl rfl hl.1 (Nat.le_of_ble_eq_true rfl) dX4_ofRoom_5 ⟨Nat.zero_le _, Nat.zero_le _⟩ rfl (fun H locs hW hS => ?_)
  refine lv_astore_n (lv' := [(3, .ref (L 10 r)), (0, .ref w), (1, .int (nI r)), (2, .int (nI 3))]) hx hb dX4_ofRoom_8 rfl hl (by decide) rfl (fun ls hl => ?_)
  refine lv_iload_n hx hb dX4_ofRoom_9 rfl (lv_at hl 3 rfl) ?_
  refine lv_iconst (v := 0) hx hb dX4_ofRoom_10 (by decide) ?_
  refine lv_iconst (v := 3) hx hb dX4_ofRoom_11 (by decide) ?_
  refine hs_runv (As := [.int (nI 3), .int 0, .int 3]) ⟨hx, hb, hml, hown, hts⟩ (kX4_checkArgument l D d L σ A (nI 3) 0 3 (by decide +kernel) (by decide +kernel)) (va_cwS 3 hts gX4_ofRoom_X4_checkArgument rfl rfl rfl (by decide +kernel) ⟨Nat.le_of_ble_eq_true rfl, Nat.le_of_ble_eq_true rfl⟩) hK hE hW hS rfl hl.1 (Nat.le_of_ble_eq_true rfl) dX4_ofRoom_12 ⟨Nat.zero_le _, Nat.zero_le _⟩ rfl (fun τ_ H locs hp hW hS => ?_)
  obtain rfl := hp
  refine lv_iload_n hx hb dX4_ofRoom_15 rfl (lv_at hl 3 rfl) ?_
  refine lv_tableOut (tgt := 69) hx hb dX4_ofRoom_16 (by decide +kernel) (by decide) ?_
  refine lv_aload_n hx hb dX4_ofRoom_69 rfl (lv_at hl 1 rfl) ?_
  refine va_get (D := D) (ci := cWx) (C := RX4) (T := TX4) (N := 2) (ws := [(w, .inr (cWx, [.ref (L 0 0), .ref (L2 0 0)]))]) (v := .ref (L 0 0)) hx hb hts (by decide +kernel) hown hK (wx_one hV hS hwA) 0 rfl rfl 0 (by decide) (hts (.fieldLink RX4 10 "Waxrow" "house" "LWaxrow$House;") (by decide +kernel)) (fun _ h9 => h9) rfl dX4_ofRoom_70 ?_
  refine lv_iload_n hx hb dX4_ofRoom_73 rfl (lv_at hl 2 rfl) ?_
  refine lv_iload_n hx hb dX4_ofRoom_74 rfl (lv_at hl 2 rfl) ?_
  refine hs_calli (As := [.int (nI r), .int (nI r)]) ⟨hx, hb, hml, hown, hts⟩ (kX1_drawsIn l D d L σ A (nI r) (nI r) F hok.hF hok.2.1  hok.hd) (cwV 2 hts gX4_ofRoom_X1_drawsIn rfl rfl rfl (by decide +kernel) ⟨Nat.le_of_ble_eq_true rfl, Nat.le_of_ble_eq_true rfl⟩) hK hE hW hS hs_ix0 (ci := cHo) (r := (RX1, TX1, 11)) rfl rfl rfl rfl hl.1 (Nat.le_of_ble_eq_true rfl) dX4_ofRoom_75 ⟨Nat.zero_le _, Nat.zero_le _⟩ rfl (fun r_ τ_ H locs hp hW hS => ?_)
  obtain ⟨rfl, rfl⟩ := hp
  exact W.iret (v := sp_draws σ (nI r) (nI r) F) hx hb hr (fun t ht hW9 => ⟨⟨(sp_draws σ (nI r) (nI r) F), σ, rfl, ⟨rfl, rfl⟩, ⟨by rw [ht]; exact hW, va_K.moved hW9.alike hK⟩⟩, hS.F ht⟩) hS.2.2 dX4_ofRoom_78
set_option maxHeartbeats 4000000 in
set_option maxRecDepth 100000 in
/-- known -/
theorem kX4_known_0 (l : Launch) (D : va_G) (d : hs_Dm) (L : hs_Lo) (σ : hs_St) (A : Nat → Prop) (w : Nat) (L2 : hs_Lo) (hwA : ¬ A w) (P F R : Nat) (hok : hs_ok P F R σ) (q : Nat) (hq : q < P) (j : Nat) (hj : j < 6) : wx_Mi l yX4_known wsX4_known ({ frames := 2, cells := 0, slots := 0, locals := 45 }) D d w L L2 σ A [.ref w, .int (nI q), .int (nI j), .int 0] (fun r τ => σ 7 q j = r ∧ σ = τ) := by
  refine Met.ofW (cc := cX4_known) (maxL := 5) (ret := (some .int)) (by decide) rfl ?_
  intro p e s m args below meth c s₁ B hml hv
  obtain ⟨rfl, ⟨⟨hW, hK⟩, hX⟩, hV⟩ := hv
  have hE := hX.1
  have hx := B.exec
  have hb := B.bytes
  have hr := B.returns
  have hts := atoms_spec (ws := wsX4_known) B.pre
  have hown : s.vm.findClass RX4 = some m.cls := findClass_of_methodNamed B.named
  have hlocks := B.notSynchronized
  have hS : va_S A s.heap s.heap [] := va_S.rf
  have hW : hs_W D d L σ A s.heap := hW
  have hl := lv_entry ([.ref w, .int (nI q), .int (nI j), .int 0]) (n := 5) (Nat.le_of_ble_eq_true rfl)
  rw [lg_entry_eq]
  generalize (lg_sl ([.ref w, .int (nI q), .int (nI j), .int 0]) ++ List.replicate (5 - (lg_sl ([.ref w, .int (nI q), .int (nI j), .int 0])).length) Slot.unset).toArray = ls at hl ⊢
  have hl : lv_has ls 5 [(0, .ref w), (1, .int (nI q)), (2, .int (nI j)), (3, .int 0)] := hl
  have h10 := hok.1
  have h8 := hok.2.1
  have h5 := hok.2.2.1
  have hd_ := hok.hd
  refine lv_aload_n hx hb dX4_known_0 rfl (lv_at hl 0 rfl) ?_
  refine va_get (D := D) (ci := cWx) (C := RX4) (T := TX4) (N := 2) (ws := [(w, .inr (cWx, [.ref (L 0 0), .ref (L2 0 0)]))]) (v := .ref (L 0 0)) hx hb hts (by decide +kernel) hown hK (wx_one hV hS hwA) 0 rfl rfl 0 (by decide) (hts (.fieldLink RX4 10 "Waxrow" "house" "LWaxrow$House;") (by decide +kernel)) (fun _ h9 => h9) rfl dX4_known_1 ?_
  refine lv_iload_n hx hb dX4_known_4 rfl (lv_at hl 1 rfl) ?_
  refine hs_callr (As := [.int (nI q)]) ⟨hx, hb, hml, hown, hts⟩ (kX1_personAt l D d L σ A q P hok.hP hq hok.1) (cwV 1 hts gX4_known_X1_personAt rfl rfl rfl (by decide +kernel) ⟨Nat.le_of_ble_eq_true rfl, Nat.le_of_ble_eq_true rfl⟩) hK hE hW hS hs_ix0 (ci := cHo) (r := (RX1, TX1, 11)) rfl rfl rfl rfl hl.1 (Nat.le_of_ble_eq_true rfl) dX4_known_5 ⟨Nat.zero_le _, Nat.zero_le _⟩ rfl (fun H locs hW hS => ?_)
  refine lv_astore (lv' := [(4, .ref (L 4 q)), (0, .ref w), (1, .int (nI q)), (2, .int (nI j)), (3, .int 0)]) hx hb dX4_known_8 hl (by decide) rfl (fun ls hl => ?_)
  refine lv_iload_n hx hb dX4_known_10 rfl (lv_at hl 3 rfl) ?_
  refine lv_bipush (v := 6) hx hb dX4_known_11 (by decide) ?_
  refine hs_runv (As := [.int (nI j), .int 6]) ⟨hx, hb, hml, hown, hts⟩ (kX4_checkIndex l D d L σ A (nI j) 6 (nI_pos (by omega)) (by rw [sp_six]; exact nI_lt hj (by decide))) (va_cwS 2 hts gX4_known_X4_checkIndex rfl rfl rfl (by decide +kernel) ⟨Nat.le_of_ble_eq_true rfl, Nat.le_of_ble_eq_true rfl⟩) hK hE hW hS rfl hl.1 (Nat.le_of_ble_eq_true rfl) dX4_known_13 ⟨Nat.zero_le _, Nat.zero_le _⟩ rfl (fun τ_ H locs hp hW hS => ?_)
  obtain rfl := hp
  refine lv_iload_n hx hb dX4_known_16 rfl (lv_at hl 4 rfl) ?_
  refine lv_if_eq (tgt := 30) hx hb dX4_known_17 (by decide) (fun c_17 => ?_) (fun c_17 => ?_)
  · refine lv_aload hx hb dX4_known_30 (lv_at hl 0 rfl) ?_
    refine va_get (D := D) (ci := cPe) (C := RX2) (T := TX2) (N := 8) (ws := [(L 4 q, hs_ct d L σ 4 q)]) (v := .ref (L 7 q)) hx hb hts (by decide +kernel) hown hK (hW.one (hs_ix4 (show q < 10 by omega))) 0 rfl rfl 3 (by decide) (hts (.fieldLink RX4 79 "Waxrow$Person" "low" "[I") (by decide +kernel)) (fun _ h9 => h9) rfl dX4_known_32 ?_
    refine lv_iload_n hx hb dX4_known_35 rfl (lv_at hl 3 rfl) ?_
    refine hs_iald (n := 6) (f := σ 7 q) hx hb hK hW 7 q (hs_ix7 (show q < 10 by omega)) rfl (vp_in_nI (show j < 6 by omega) (by decide)) dX4_known_36 ?_
    rw [show σ 7 q (nI j : Int32).toNatClampNeg = σ 7 q j from by simp [hs_sg, nI_clamp (show j < 2 ^ 31 by omega)]]
    exact W.iret (v := σ 7 q j) hx hb hr (fun t ht hW9 => ⟨⟨(σ 7 q j), σ, rfl, ⟨rfl, rfl⟩, ⟨by rw [ht]; exact hW, va_K.moved hW9.alike hK⟩⟩, hS.F ht⟩) hS.2.2 dX4_known_37
  · exact absurd (by decide +kernel) c_17
set_option maxHeartbeats 4000000 in
set_option maxRecDepth 100000 in
/-- known -/
theorem kX4_known_1 (l : Launch) (D : va_G) (d : hs_Dm) (L : hs_Lo) (σ : hs_St) (A : Nat → Prop) (w : Nat) (L2 : hs_Lo) (hwA : ¬ A w) (P F R : Nat) (hok : hs_ok P F R σ) (q : Nat) (hq : q < P) (j : Nat) (hj : j < 6) : wx_Mi l yX4_known wsX4_known ({ frames := 2, cells := 0, slots := 0, locals := 45 }) D d w L L2 σ A [.ref w, .int (nI q), .int (nI j), .int 1] (fun r τ => σ 8 q j = r ∧ σ = τ) := by
  refine Met.ofW (cc := cX4_known) (maxL := 5) (ret := (some .int)) (by decide) rfl ?_
  intro p e s m args below meth c s₁ B hml hv
  obtain ⟨rfl, ⟨⟨hW, hK⟩, hX⟩, hV⟩ := hv
  have hE := hX.1
  have hx := B.exec
  have hb := B.bytes
  have hr := B.returns
  have hts := atoms_spec (ws := wsX4_known) B.pre
  have hown : s.vm.findClass RX4 = some m.cls := findClass_of_methodNamed B.named
  have hlocks := B.notSynchronized
  have hS : va_S A s.heap s.heap [] := va_S.rf
  have hW : hs_W D d L σ A s.heap := hW
  have hl := lv_entry ([.ref w, .int (nI q), .int (nI j), .int 1]) (n := 5) (Nat.le_of_ble_eq_true rfl)
  rw [lg_entry_eq]
  generalize (lg_sl ([.ref w, .int (nI q), .int (nI j), .int 1]) ++ List.replicate (5 - (lg_sl ([.ref w, .int (nI q), .int (nI j), .int 1])).length) Slot.unset).toArray = ls at hl ⊢
  have hl : lv_has ls 5 [(0, .ref w), (1, .int (nI q)), (2, .int (nI j)), (3, .int 1)] := hl
  have h10 := hok.1
  have h8 := hok.2.1
  have h5 := hok.2.2.1
  have hd_ := hok.hd
  refine lv_aload_n hx hb dX4_known_0 rfl (lv_at hl 0 rfl) ?_
  refine va_get (D := D) (ci := cWx) (C := RX4) (T := TX4) (N := 2) (ws := [(w, .inr (cWx, [.ref (L 0 0), .ref (L2 0 0)]))]) (v := .ref (L 0 0)) hx hb hts (by decide +kernel) hown hK (wx_one hV hS hwA) 0 rfl rfl 0 (by decide) (hts (.fieldLink RX4 10 "Waxrow" "house" "LWaxrow$House;") (by decide +kernel)) (fun _ h9 => h9) rfl dX4_known_1 ?_
  refine lv_iload_n hx hb dX4_known_4 rfl (lv_at hl 1 rfl) ?_
  refine hs_callr (As := [.int (nI q)]) ⟨hx, hb, hml, hown, hts⟩ (kX1_personAt l D d L σ A q P hok.hP hq hok.1) (cwV 1 hts gX4_known_X1_personAt rfl rfl rfl (by decide +kernel) ⟨Nat.le_of_ble_eq_true rfl, Nat.le_of_ble_eq_true rfl⟩) hK hE hW hS hs_ix0 (ci := cHo) (r := (RX1, TX1, 11)) rfl rfl rfl rfl hl.1 (Nat.le_of_ble_eq_true rfl) dX4_known_5 ⟨Nat.zero_le _, Nat.zero_le _⟩ rfl (fun H locs hW hS => ?_)
  refine lv_astore (lv' := [(4, .ref (L 4 q)), (0, .ref w), (1, .int (nI q)), (2, .int (nI j)), (3, .int 1)]) hx hb dX4_known_8 hl (by decide) rfl (fun ls hl => ?_)
  refine lv_iload_n hx hb dX4_known_10 rfl (lv_at hl 3 rfl) ?_
  refine lv_bipush (v := 6) hx hb dX4_known_11 (by decide) ?_
  refine hs_runv (As := [.int (nI j), .int 6]) ⟨hx, hb, hml, hown, hts⟩ (kX4_checkIndex l D d L σ A (nI j) 6 (nI_pos (by omega)) (by rw [sp_six]; exact nI_lt hj (by decide))) (va_cwS 2 hts gX4_known_X4_checkIndex rfl rfl rfl (by decide +kernel) ⟨Nat.le_of_ble_eq_true rfl, Nat.le_of_ble_eq_true rfl⟩) hK hE hW hS rfl hl.1 (Nat.le_of_ble_eq_true rfl) dX4_known_13 ⟨Nat.zero_le _, Nat.zero_le _⟩ rfl (fun τ_ H locs hp hW hS => ?_)
  obtain rfl := hp
  refine lv_iload_n hx hb dX4_known_16 rfl (lv_at hl 4 rfl) ?_
  refine lv_if_eq (tgt := 30) hx hb dX4_known_17 (by decide) (fun c_17 => ?_) (fun c_17 => ?_)
  · exact absurd c_17 (by decide +kernel)
  · refine lv_aload hx hb dX4_known_20 (lv_at hl 0 rfl) ?_
    refine va_get (D := D) (ci := cPe) (C := RX2) (T := TX2) (N := 8) (ws := [(L 4 q, hs_ct d L σ 4 q)]) (v := .ref (L 8 q)) hx hb hts (by decide +kernel) hown hK (hW.one (hs_ix4 (show q < 10 by omega))) 0 rfl rfl 4 (by decide) (hts (.fieldLink RX4 76 "Waxrow$Person" "high" "[I") (by decide +kernel)) (fun _ h9 => h9) rfl dX4_known_22 ?_
    refine lv_iload_n hx hb dX4_known_25 rfl (lv_at hl 3 rfl) ?_
    refine hs_iald (n := 6) (f := σ 8 q) hx hb hK hW 8 q (hs_ix8 (show q < 10 by omega)) rfl (vp_in_nI (show j < 6 by omega) (by decide)) dX4_known_26 ?_
    rw [show σ 8 q (nI j : Int32).toNatClampNeg = σ 8 q j from by simp [hs_sg, nI_clamp (show j < 2 ^ 31 by omega)]]
    refine lv_goto (tgt := 37) hx hb dX4_known_27 (by decide) ?_
    exact W.iret (v := σ 8 q j) hx hb hr (fun t ht hW9 => ⟨⟨(σ 8 q j), σ, rfl, ⟨rfl, rfl⟩, ⟨by rw [ht]; exact hW, va_K.moved hW9.alike hK⟩⟩, hS.F ht⟩) hS.2.2 dX4_known_37
set_option maxHeartbeats 4000000 in
set_option maxRecDepth 100000 in
/-- wouldFame -/
theorem kX4_wouldFame (l : Launch) (D : va_G) (d : hs_Dm) (L : hs_Lo) (σ : hs_St) (A : Nat → Prop) (w : Nat) (L2 : hs_Lo) (hwA : ¬ A w) (P F R : Nat) (hok : hs_ok P F R σ) (q : Nat) (hq : q < P) (j : Nat) (hj : j < 3) (M : Nat) (hM : M ≤ 60) : wx_Mi l yX4_wouldFame wsX4_wouldFame ({ frames := 2, cells := 0, slots := 0, locals := 50 }) D d w L L2 σ A [.ref w, .int (nI q), .int (nI j), .int (nI M)] (fun r τ => sp_fame σ q j M = r ∧ σ = τ) := by
  refine Met.ofW (cc := cX4_wouldFame) (maxL := 5) (ret := (some .int)) (by decide) rfl ?_
  intro p e s m args below meth c s₁ B hml hv
  obtain ⟨rfl, ⟨⟨hW, hK⟩, hX⟩, hV⟩ := hv
  have hE := hX.1
  have hx := B.exec
  have hb := B.bytes
  have hr := B.returns
  have hts := atoms_spec (ws := wsX4_wouldFame) B.pre
  have hown : s.vm.findClass RX4 = some m.cls := findClass_of_methodNamed B.named
  have hlocks := B.notSynchronized
  have hS : va_S A s.heap s.heap [] := va_S.rf
  have hW : hs_W D d L σ A s.heap := hW
  have hl := lv_entry ([.ref w, .int (nI q), .int (nI j), .int (nI M)]) (n := 5) (Nat.le_of_ble_eq_true rfl)
  rw [lg_entry_eq]
  generalize (lg_sl ([.ref w, .int (nI q), .int (nI j), .int (nI M)]) ++ List.replicate (5 - (lg_sl ([.ref w, .int (nI q), .int (nI j), .int (nI M)])).length) Slot.unset).toArray = ls at hl ⊢
  have hl : lv_has ls 5 [(0, .ref w), (1, .int (nI q)), (2, .int (nI j)), (3, .int (nI M))] := hl
  have h10 := hok.1
  have h8 := hok.2.1
  have h5 := hok.2.2.1
  have hd_ := hok.hd
  refine lv_aload_n hx hb dX4_wouldFame_0 rfl (lv_at hl 0 rfl) ?_
  refine va_get (D := D) (ci := cWx) (C := RX4) (T := TX4) (N := 2) (ws := [(w, .inr (cWx, [.ref (L 0 0), .ref (L2 0 0)]))]) (v := .ref (L 0 0)) hx hb hts (by decide +kernel) hown hK (wx_one hV hS hwA) 0 rfl rfl 0 (by decide) (hts (.fieldLink RX4 10 "Waxrow" "house" "LWaxrow$House;") (by decide +kernel)) (fun _ h9 => h9) rfl dX4_wouldFame_1 ?_
  refine lv_iload_n hx hb dX4_wouldFame_4 rfl (lv_at hl 1 rfl) ?_
  refine hs_callr (As := [.int (nI q)]) ⟨hx, hb, hml, hown, hts⟩ (kX1_personAt l D d L σ A q P hok.hP hq hok.1) (cwV 1 hts gX4_wouldFame_X1_personAt rfl rfl rfl (by decide +kernel) ⟨Nat.le_of_ble_eq_true rfl, Nat.le_of_ble_eq_true rfl⟩) hK hE hW hS hs_ix0 (ci := cHo) (r := (RX1, TX1, 11)) rfl rfl rfl rfl hl.1 (Nat.le_of_ble_eq_true rfl) dX4_wouldFame_5 ⟨Nat.zero_le _, Nat.zero_le _⟩ rfl (fun H locs hW hS => ?_)
  refine lv_astore (lv' := [(4, .ref (L 4 q)), (0, .ref w), (1, .int (nI q)), (2, .int (nI j)), (3, .int (nI M))]) hx hb dX4_wouldFame_8 hl (by decide) rfl (fun ls hl => ?_)
  refine lv_iload_n hx hb dX4_wouldFame_10 rfl (lv_at hl 3 rfl) ?_
  refine lv_iconst (v := 3) hx hb dX4_wouldFame_11 (by decide) ?_
  refine hs_runv (As := [.int (nI j), .int 3]) ⟨hx, hb, hml, hown, hts⟩ (kX4_checkIndex l D d L σ A (nI j) 3 (nI_pos (by omega)) (by rw [sp_three]; exact nI_lt hj (by decide))) (va_cwS 2 hts gX4_wouldFame_X4_checkIndex rfl rfl rfl (by decide +kernel) ⟨Nat.le_of_ble_eq_true rfl, Nat.le_of_ble_eq_true rfl⟩) hK hE hW hS rfl hl.1 (Nat.le_of_ble_eq_true rfl) dX4_wouldFame_12 ⟨Nat.zero_le _, Nat.zero_le _⟩ rfl (fun τ_ H locs hp hW hS => ?_)
  obtain rfl := hp
  refine lv_iload_n hx hb dX4_wouldFame_15 rfl (lv_at hl 4 rfl) ?_
  refine lv_iconst (v := 0) hx hb dX4_wouldFame_16 (by decide) ?_
  refine lv_bipush (v := 60) hx hb dX4_wouldFame_17 (by decide) ?_
  refine hs_runv (As := [.int (nI M), .int 0, .int 60]) ⟨hx, hb, hml, hown, hts⟩ (kX4_checkArgument l D d L σ A (nI M) 0 60 (nI_pos (by omega)) (by rw [show (60 : Int32) = nI 60 from by decide +kernel]; exact nI_le hM (by omega))) (va_cwS 3 hts gX4_wouldFame_X4_checkArgument rfl rfl rfl (by decide +kernel) ⟨Nat.le_of_ble_eq_true rfl, Nat.le_of_ble_eq_true rfl⟩) hK hE hW hS rfl hl.1 (Nat.le_of_ble_eq_true rfl) dX4_wouldFame_19 ⟨Nat.zero_le _, Nat.zero_le _⟩ rfl (fun τ_ H locs hp hW hS => ?_)
  obtain rfl := hp
  refine lv_aload hx hb dX4_wouldFame_22 (lv_at hl 0 rfl) ?_
  refine lv_iload_n hx hb dX4_wouldFame_24 rfl (lv_at hl 3 rfl) ?_
  refine lv_iload_n hx hb dX4_wouldFame_25 rfl (lv_at hl 4 rfl) ?_
  refine hs_calli (As := [.int (nI j), .int (nI M)]) ⟨hx, hb, hml, hown, hts⟩ (kX2_fameBehind l D d L σ A q (show q < 10 by omega) j hj M hM) (cwV 2 hts gX4_wouldFame_X2_fameBehind rfl rfl rfl (by decide +kernel) ⟨Nat.le_of_ble_eq_true rfl, Nat.le_of_ble_eq_true rfl⟩) hK hE hW hS (hs_ix4 (show q < 10 by omega)) (ci := cPe) (r := (RX2, TX2, 8)) rfl rfl rfl rfl hl.1 (Nat.le_of_ble_eq_true rfl) dX4_wouldFame_26 ⟨Nat.zero_le _, Nat.zero_le _⟩ rfl (fun r_ τ_ H locs hp hW hS => ?_)
  obtain ⟨rfl, rfl⟩ := hp
  exact W.iret (v := sp_fame σ q j M) hx hb hr (fun t ht hW9 => ⟨⟨(sp_fame σ q j M), σ, rfl, ⟨rfl, rfl⟩, ⟨by rw [ht]; exact hW, va_K.moved hW9.alike hK⟩⟩, hS.F ht⟩) hS.2.2 dX4_wouldFame_29
set_option maxHeartbeats 4000000 in
set_option maxRecDepth 100000 in
/-- readyIn -/
theorem kX4_readyIn (l : Launch) (D : va_G) (d : hs_Dm) (L : hs_Lo) (σ : hs_St) (A : Nat → Prop) (w : Nat) (L2 : hs_Lo) (hwA : ¬ A w) (P F R : Nat) (hok : hs_ok P F R σ) (f : Nat) (hf : f < F) : wx_Mi l yX4_readyIn wsX4_readyIn ({ frames := 2, cells := 0, slots := 0, locals := 50 }) D d w L L2 σ A [.ref w, .int (nI f)] (fun r τ => sp_days σ f = r ∧ σ = τ) := by
  refine Met.ofW (cc := cX4_readyIn) (maxL := 2) (ret := (some .int)) (by decide) rfl ?_
  intro p e s m args below meth c s₁ B hml hv
  obtain ⟨rfl, ⟨⟨hW, hK⟩, hX⟩, hV⟩ := hv
  have hE := hX.1
  have hx := B.exec
  have hb := B.bytes
  have hr := B.returns
  have hts := atoms_spec (ws := wsX4_readyIn) B.pre
  have hown : s.vm.findClass RX4 = some m.cls := findClass_of_methodNamed B.named
  have hlocks := B.notSynchronized
  have hS : va_S A s.heap s.heap [] := va_S.rf
  have hW : hs_W D d L σ A s.heap := hW
  have hl := lv_entry ([.ref w, .int (nI f)]) (n := 2) (Nat.le_of_ble_eq_true rfl)
  rw [lg_entry_eq]
  generalize (lg_sl ([.ref w, .int (nI f)]) ++ List.replicate (2 - (lg_sl ([.ref w, .int (nI f)])).length) Slot.unset).toArray = ls at hl ⊢
  have hl : lv_has ls 2 [(0, .ref w), (1, .int (nI f))] := hl
  have h10 := hok.1
  have h8 := hok.2.1
  have h5 := hok.2.2.1
  have hd_ := hok.hd
  refine lv_aload_n hx hb dX4_readyIn_0 rfl (lv_at hl 0 rfl) ?_
  refine va_get (D := D) (ci := cWx) (C := RX4) (T := TX4) (N := 2) (ws := [(w, .inr (cWx, [.ref (L 0 0), .ref (L2 0 0)]))]) (v := .ref (L 0 0)) hx hb hts (by decide +kernel) hown hK (wx_one hV hS hwA) 0 rfl rfl 0 (by decide) (hts (.fieldLink RX4 10 "Waxrow" "house" "LWaxrow$House;") (by decide +kernel)) (fun _ h9 => h9) rfl dX4_readyIn_1 ?_
  refine lv_iload_n hx hb dX4_readyIn_4 rfl (lv_at hl 1 rfl) ?_
  refine hs_callr (As := [.int (nI f)]) ⟨hx, hb, hml, hown, hts⟩ (kX1_figureAt l D d L σ A f F hok.hF hf hok.2.1) (cwV 1 hts gX4_readyIn_X1_figureAt rfl rfl rfl (by decide +kernel) ⟨Nat.le_of_ble_eq_true rfl, Nat.le_of_ble_eq_true rfl⟩) hK hE hW hS hs_ix0 (ci := cHo) (r := (RX1, TX1, 11)) rfl rfl rfl rfl hl.1 (Nat.le_of_ble_eq_true rfl) dX4_readyIn_5 ⟨Nat.zero_le _, Nat.zero_le _⟩ rfl (fun H locs hW hS => ?_)
  refine hs_calli (As := []) ⟨hx, hb, hml, hown, hts⟩ (kX0_daysTillDone l D d L σ A f (show f < 8 by omega) (hok.st (by omega))) (cwV 0 hts gX4_readyIn_X0_daysTillDone rfl rfl rfl (by decide +kernel) ⟨Nat.le_of_ble_eq_true rfl, Nat.le_of_ble_eq_true rfl⟩) hK hE hW hS (hs_ix9 (show f < 8 by omega)) (ci := cFi) (r := (RX0, TX0, 11)) rfl rfl rfl rfl hl.1 (Nat.le_of_ble_eq_true rfl) dX4_readyIn_8 ⟨Nat.zero_le _, Nat.zero_le _⟩ rfl (fun r_ τ_ H locs hp hW hS => ?_)
  obtain ⟨rfl, rfl⟩ := hp
  exact W.iret (v := sp_days σ f) hx hb hr (fun t ht hW9 => ⟨⟨(sp_days σ f), σ, rfl, ⟨rfl, rfl⟩, ⟨by rw [ht]; exact hW, va_K.moved hW9.alike hK⟩⟩, hS.F ht⟩) hS.2.2 dX4_readyIn_11
set_option maxHeartbeats 4000000 in
set_option maxRecDepth 100000 in
/-- trend -/
theorem kX4_trend (l : Launch) (D : va_G) (d : hs_Dm) (L : hs_Lo) (σ : hs_St) (A : Nat → Prop) (w : Nat) (L2 : hs_Lo) (hwA : ¬ A w) (P F R : Nat) (hok : hs_ok P F R σ) (q : Nat) (hq : q < P) (j : Nat) (hj : j < 3) (x : Int32) (hx0 : ¬ x < -40) (hx9 : x ≤ 40) : wx_Mi l yX4_trend wsX4_trend ({ frames := 2, cells := 0, slots := 0, locals := 45 }) D d w L L2 σ A [.ref w, .int (nI q), .int (nI j), .int x] (fun r τ => σ 6 q j = r ∧ hs_sg σ 6 q j x = τ) := by
  refine Met.ofW (cc := cX4_trend) (maxL := 6) (ret := (some .int)) (by decide) rfl ?_
  intro p e s m args below meth c s₁ B hml hv
  obtain ⟨rfl, ⟨⟨hW, hK⟩, hX⟩, hV⟩ := hv
  have hE := hX.1
  have hx := B.exec
  have hb := B.bytes
  have hr := B.returns
  have hts := atoms_spec (ws := wsX4_trend) B.pre
  have hown : s.vm.findClass RX4 = some m.cls := findClass_of_methodNamed B.named
  have hlocks := B.notSynchronized
  have hS : va_S A s.heap s.heap [] := va_S.rf
  have hW : hs_W D d L σ A s.heap := hW
  have hl := lv_entry ([.ref w, .int (nI q), .int (nI j), .int x]) (n := 6) (Nat.le_of_ble_eq_true rfl)
  rw [lg_entry_eq]
  generalize (lg_sl ([.ref w, .int (nI q), .int (nI j), .int x]) ++ List.replicate (6 - (lg_sl ([.ref w, .int (nI q), .int (nI j), .int x])).length) Slot.unset).toArray = ls at hl ⊢
  have hl : lv_has ls 6 [(0, .ref w), (1, .int (nI q)), (2, .int (nI j)), (3, .int x)] := hl
  have h10 := hok.1
  have h8 := hok.2.1
  have h5 := hok.2.2.1
  have hd_ := hok.hd
  refine lv_aload_n hx hb dX4_trend_0 rfl (lv_at hl 0 rfl) ?_
  refine va_get (D := D) (ci := cWx) (C := RX4) (T := TX4) (N := 2) (ws := [(w, .inr (cWx, [.ref (L 0 0), .ref (L2 0 0)]))]) (v := .ref (L 0 0)) hx hb hts (by decide +kernel) hown hK (wx_one hV hS hwA) 0 rfl rfl 0 (by decide) (hts (.fieldLink RX4 10 "Waxrow" "house" "LWaxrow$House;") (by decide +kernel)) (fun _ h9 => h9) rfl dX4_trend_1 ?_
  refine lv_iload_n hx hb dX4_trend_4 rfl (lv_at hl 1 rfl) ?_
  refine hs_callr (As := [.int (nI q)]) ⟨hx, hb, hml, hown, hts⟩ (kX1_personAt l D d L σ A q P hok.hP hq hok.1) (cwV 1 hts gX4_trend_X1_personAt rfl rfl rfl (by decide +kernel) ⟨Nat.le_of_ble_eq_true rfl, Nat.le_of_ble_eq_true rfl⟩) hK hE hW hS hs_ix0 (ci := cHo) (r := (RX1, TX1, 11)) rfl rfl rfl rfl hl.1 (Nat.le_of_ble_eq_true rfl) dX4_trend_5 ⟨Nat.zero_le _, Nat.zero_le _⟩ rfl (fun H locs hW hS => ?_)
  refine lv_astore (lv' := [(4, .ref (L 4 q)), (0, .ref w), (1, .int (nI q)), (2, .int (nI j)), (3, .int x)]) hx hb dX4_trend_8 hl (by decide) rfl (fun ls hl => ?_)
  refine lv_iload_n hx hb dX4_trend_10 rfl (lv_at hl 3 rfl) ?_
  refine lv_iconst (v := 3) hx hb dX4_trend_11 (by decide) ?_
  refine hs_runv (As := [.int (nI j), .int 3]) ⟨hx, hb, hml, hown, hts⟩ (kX4_checkIndex l D d L σ A (nI j) 3 (nI_pos (by omega)) (by rw [sp_three]; exact nI_lt hj (by decide))) (va_cwS 2 hts gX4_trend_X4_checkIndex rfl rfl rfl (by decide +kernel) ⟨Nat.le_of_ble_eq_true rfl, Nat.le_of_ble_eq_true rfl⟩) hK hE hW hS rfl hl.1 (Nat.le_of_ble_eq_true rfl) dX4_trend_12 ⟨Nat.zero_le _, Nat.zero_le _⟩ rfl (fun τ_ H locs hp hW hS => ?_)
  obtain rfl := hp
  refine lv_iload_n hx hb dX4_trend_15 rfl (lv_at hl 4 rfl) ?_
  refine lv_bipush (v := (-40)) hx hb dX4_trend_16 (by decide) ?_
  refine lv_bipush (v := 40) hx hb dX4_trend_18 (by decide) ?_
  refine hs_runv (As := [.int x, .int (-40), .int 40]) ⟨hx, hb, hml, hown, hts⟩ (kX4_checkArgument l D d L σ A x (-40) 40 hx0 hx9) (va_cwS 3 hts gX4_trend_X4_checkArgument rfl rfl rfl (by decide +kernel) ⟨Nat.le_of_ble_eq_true rfl, Nat.le_of_ble_eq_true rfl⟩) hK hE hW hS rfl hl.1 (Nat.le_of_ble_eq_true rfl) dX4_trend_20 ⟨Nat.zero_le _, Nat.zero_le _⟩ rfl (fun τ_ H locs hp hW hS => ?_)
  obtain rfl := hp
  refine lv_aload hx hb dX4_trend_23 (lv_at hl 0 rfl) ?_
  refine va_get (D := D) (ci := cPe) (C := RX2) (T := TX2) (N := 8) (ws := [(L 4 q, hs_ct d L σ 4 q)]) (v := .ref (L 6 q)) hx hb hts (by decide +kernel) hown hK (hW.one (hs_ix4 (show q < 10 by omega))) 0 rfl rfl 2 (by decide) (hts (.fieldLink RX4 43 "Waxrow$Person" "trend" "[I") (by decide +kernel)) (fun _ h9 => h9) rfl dX4_trend_25 ?_
  refine lv_iload_n hx hb dX4_trend_28 rfl (lv_at hl 3 rfl) ?_
  refine hs_iald (n := 3) (f := σ 6 q) hx hb hK hW 6 q (hs_ix6 (show q < 10 by omega)) rfl (vp_in_nI (show j < 3 by omega) (by decide)) dX4_trend_29 ?_
  rw [show σ 6 q (nI j : Int32).toNatClampNeg = σ 6 q j from by simp [hs_sg, nI_clamp (show j < 2 ^ 31 by omega)]]
  refine lv_istore (lv' := [(5, .int (σ 6 q j)), (4, .ref (L 4 q)), (0, .ref w), (1, .int (nI q)), (2, .int (nI j)), (3, .int x)]) hx hb dX4_trend_30 hl (by decide) rfl (fun ls hl => ?_)
  refine lv_aload hx hb dX4_trend_32 (lv_at hl 1 rfl) ?_
  refine va_get (D := D) (ci := cPe) (C := RX2) (T := TX2) (N := 8) (ws := [(L 4 q, hs_ct d L σ 4 q)]) (v := .ref (L 6 q)) hx hb hts (by decide +kernel) hown hK (hW.one (hs_ix4 (show q < 10 by omega))) 0 rfl rfl 2 (by decide) (hts (.fieldLink RX4 43 "Waxrow$Person" "trend" "[I") (by decide +kernel)) (fun _ h9 => h9) rfl dX4_trend_34 ?_
  refine lv_iload_n hx hb dX4_trend_37 rfl (lv_at hl 4 rfl) ?_
  refine lv_iload_n hx hb dX4_trend_38 rfl (lv_at hl 5 rfl) ?_
  refine hs_iast (n := 3) (f := σ 6 q) hx hb hK hW hS 6 q (hs_ix6 (show q < 10 by omega)) rfl (vp_in_nI (show j < 3 by omega) (by decide)) (hs_sg σ 6 q j x) (by simp only [hs_ct, hs_arr, nI_clamp (show j < 2 ^ 31 by omega)]) (hs_off _ _ _ _ _) dX4_trend_39 (fun H locs hW hS => ?_)
  refine lv_iload hx hb dX4_trend_40 (lv_at hl 0 rfl) ?_
  exact W.iret (v := σ 6 q j) hx hb hr (fun t ht hW9 => ⟨⟨(σ 6 q j), (hs_sg σ 6 q j x), rfl, ⟨rfl, rfl⟩, ⟨by rw [ht]; exact hW, va_K.moved hW9.alike hK⟩⟩, hS.F ht⟩) hS.2.2 dX4_trend_42
set_option maxHeartbeats 4000000 in
set_option maxRecDepth 100000 in
/-- consent -/
theorem kX4_consent_0 (l : Launch) (D : va_G) (d : hs_Dm) (L : hs_Lo) (σ : hs_St) (A : Nat → Prop) (w : Nat) (L2 : hs_Lo) (hwA : ¬ A w) (P F R : Nat) (hok : hs_ok P F R σ) (q : Nat) (hq : q < P) : wx_Mi l yX4_consent wsX4_consent ({ frames := 2, cells := 0, slots := 0, locals := 50 }) D d w L L2 σ A [.ref w, .int (nI q), .int 0] (fun r τ => (sp_tk (hs_sg σ 4 q 5 0) q F).1 = r ∧ (sp_tk (hs_sg σ 4 q 5 0) q F).2 = τ) := by
  refine Met.ofW (cc := cX4_consent) (maxL := 4) (ret := (some .int)) (by decide) rfl ?_
  intro p e s m args below meth c s₁ B hml hv
  obtain ⟨rfl, ⟨⟨hW, hK⟩, hX⟩, hV⟩ := hv
  have hE := hX.1
  have hx := B.exec
  have hb := B.bytes
  have hr := B.returns
  have hts := atoms_spec (ws := wsX4_consent) B.pre
  have hown : s.vm.findClass RX4 = some m.cls := findClass_of_methodNamed B.named
  have hlocks := B.notSynchronized
  have hS : va_S A s.heap s.heap [] := va_S.rf
  have hW : hs_W D d L σ A s.heap := hW
  have hl := lv_entry ([.ref w, .int (nI q), .int 0]) (n := 4) (Nat.le_of_ble_eq_true rfl)
  rw [lg_entry_eq]
  generalize (lg_sl ([.ref w, .int (nI q), .int 0]) ++ List.replicate (4 - (lg_sl ([.ref w, .int (nI q), .int 0])).length) Slot.unset).toArray = ls at hl ⊢
  have hl : lv_has ls 4 [(0, .ref w), (1, .int (nI q)), (2, .int 0)] := hl
  have h10 := hok.1
  have h8 := hok.2.1
  have h5 := hok.2.2.1
  have hd_ := hok.hd
  refine lv_aload_n hx hb dX4_consent_0 rfl (lv_at hl 0 rfl) ?_
  refine va_get (D := D) (ci := cWx) (C := RX4) (T := TX4) (N := 2) (ws := [(w, .inr (cWx, [.ref (L 0 0), .ref (L2 0 0)]))]) (v := .ref (L 0 0)) hx hb hts (by decide +kernel) hown hK (wx_one hV hS hwA) 0 rfl rfl 0 (by decide) (hts (.fieldLink RX4 10 "Waxrow" "house" "LWaxrow$House;") (by decide +kernel)) (fun _ h9 => h9) rfl dX4_consent_1 ?_
  refine lv_iload_n hx hb dX4_consent_4 rfl (lv_at hl 1 rfl) ?_
  refine hs_callr (As := [.int (nI q)]) ⟨hx, hb, hml, hown, hts⟩ (kX1_personAt l D d L σ A q P hok.hP hq hok.1) (cwV 1 hts gX4_consent_X1_personAt rfl rfl rfl (by decide +kernel) ⟨Nat.le_of_ble_eq_true rfl, Nat.le_of_ble_eq_true rfl⟩) hK hE hW hS hs_ix0 (ci := cHo) (r := (RX1, TX1, 11)) rfl rfl rfl rfl hl.1 (Nat.le_of_ble_eq_true rfl) dX4_consent_5 ⟨Nat.zero_le _, Nat.zero_le _⟩ rfl (fun H locs hW hS => ?_)
  refine lv_astore_n (lv' := [(3, .ref (L 4 q)), (0, .ref w), (1, .int (nI q)), (2, .int 0)]) hx hb dX4_consent_8 rfl hl (by decide) rfl (fun ls hl => ?_)
  refine lv_aload_n hx hb dX4_consent_9 rfl (lv_at hl 0 rfl) ?_
  refine lv_iload_n hx hb dX4_consent_10 rfl (lv_at hl 3 rfl) ?_
  refine hs_put (ci := cPe) (C := RX2) (T := TX2) (N := 8) (ty := .boolean) hx hb hts (by decide +kernel) tyX2 tyX2_ok nmX2 hown hK hW hS 4 q (hs_ix4 (show q < 10 by omega)) rfl rfl 5 (by decide) (hts (.fieldLink RX4 56 "Waxrow$Person" "consents" "Z") (by decide +kernel)) (fun _ h9 => h9) rfl (by decide +kernel) rfl rfl (Nat.le_of_ble_eq_true rfl) (hs_sg σ 4 q 5 0) (by simp [hs_ct, hs_sg]) (hs_off _ _ _ _ _) dX4_consent_11 (fun H locs hW hS => ?_)
  refine lv_iload_n hx hb dX4_consent_14 rfl (lv_at hl 3 rfl) ?_
  refine lv_if_eq (tgt := 22) hx hb dX4_consent_15 (by decide) (fun c_15 => ?_) (fun c_15 => ?_)
  · refine lv_aload_n hx hb dX4_consent_22 rfl (lv_at hl 1 rfl) ?_
    refine va_get (D := D) (ci := cWx) (C := RX4) (T := TX4) (N := 2) (ws := [(w, .inr (cWx, [.ref (L 0 0), .ref (L2 0 0)]))]) (v := .ref (L 0 0)) hx hb hts (by decide +kernel) hown hK (wx_one hV hS hwA) 0 rfl rfl 0 (by decide) (hts (.fieldLink RX4 10 "Waxrow" "house" "LWaxrow$House;") (by decide +kernel)) (fun _ h9 => h9) rfl dX4_consent_23 ?_
    refine lv_aload_n hx hb dX4_consent_26 rfl (lv_at hl 0 rfl) ?_
    refine hs_calli (As := [.ref (L 4 q)]) ⟨hx, hb, hml, hown, hts⟩ (kX1_takeAllOf l D d L (hs_sg σ 4 q 5 0) A q (show q < 10 by omega) F (by simp only [hs_sg]; exact hok.hF) hok.2.1 (fun i hi => by simpa [hs_sg] using hok.hd i hi)) (cwV 1 hts gX4_consent_X1_takeAllOf rfl rfl rfl (by decide +kernel) ⟨Nat.le_of_ble_eq_true rfl, Nat.le_of_ble_eq_true rfl⟩) hK hE hW hS hs_ix0 (ci := cHo) (r := (RX1, TX1, 11)) rfl rfl rfl rfl hl.1 (Nat.le_of_ble_eq_true rfl) dX4_consent_27 ⟨Nat.zero_le _, Nat.zero_le _⟩ rfl (fun r_ τ_ H locs hp hW hS => ?_)
    obtain ⟨rfl, rfl⟩ := hp
    exact W.iret (v := (sp_tk (hs_sg σ 4 q 5 0) q F).1) hx hb hr (fun t ht hW9 => ⟨⟨((sp_tk (hs_sg σ 4 q 5 0) q F).1), ((sp_tk (hs_sg σ 4 q 5 0) q F).2), rfl, ⟨rfl, rfl⟩, ⟨by rw [ht]; exact hW, va_K.moved hW9.alike hK⟩⟩, hS.F ht⟩) hS.2.2 dX4_consent_30
  · exact absurd (by decide +kernel) c_15
set_option maxHeartbeats 4000000 in
set_option maxRecDepth 100000 in
/-- consent -/
theorem kX4_consent_1 (l : Launch) (D : va_G) (d : hs_Dm) (L : hs_Lo) (σ : hs_St) (A : Nat → Prop) (w : Nat) (L2 : hs_Lo) (hwA : ¬ A w) (P F R : Nat) (hok : hs_ok P F R σ) (q : Nat) (hq : q < P) : wx_Mi l yX4_consent wsX4_consent ({ frames := 2, cells := 0, slots := 0, locals := 50 }) D d w L L2 σ A [.ref w, .int (nI q), .int 1] (fun r τ => (0 : Int32) = r ∧ hs_sg σ 4 q 5 1 = τ) := by
  refine Met.ofW (cc := cX4_consent) (maxL := 4) (ret := (some .int)) (by decide) rfl ?_
  intro p e s m args below meth c s₁ B hml hv
  obtain ⟨rfl, ⟨⟨hW, hK⟩, hX⟩, hV⟩ := hv
  have hE := hX.1
  have hx := B.exec
  have hb := B.bytes
  have hr := B.returns
  have hts := atoms_spec (ws := wsX4_consent) B.pre
  have hown : s.vm.findClass RX4 = some m.cls := findClass_of_methodNamed B.named
  have hlocks := B.notSynchronized
  have hS : va_S A s.heap s.heap [] := va_S.rf
  have hW : hs_W D d L σ A s.heap := hW
  have hl := lv_entry ([.ref w, .int (nI q), .int 1]) (n := 4) (Nat.le_of_ble_eq_true rfl)
  rw [lg_entry_eq]
  generalize (lg_sl ([.ref w, .int (nI q), .int 1]) ++ List.replicate (4 - (lg_sl ([.ref w, .int (nI q), .int 1])).length) Slot.unset).toArray = ls at hl ⊢
  have hl : lv_has ls 4 [(0, .ref w), (1, .int (nI q)), (2, .int 1)] := hl
  have h10 := hok.1
  have h8 := hok.2.1
  have h5 := hok.2.2.1
  have hd_ := hok.hd
  refine lv_aload_n hx hb dX4_consent_0 rfl (lv_at hl 0 rfl) ?_
  refine va_get (D := D) (ci := cWx) (C := RX4) (T := TX4) (N := 2) (ws := [(w, .inr (cWx, [.ref (L 0 0), .ref (L2 0 0)]))]) (v := .ref (L 0 0)) hx hb hts (by decide +kernel) hown hK (wx_one hV hS hwA) 0 rfl rfl 0 (by decide) (hts (.fieldLink RX4 10 "Waxrow" "house" "LWaxrow$House;") (by decide +kernel)) (fun _ h9 => h9) rfl dX4_consent_1 ?_
  refine lv_iload_n hx hb dX4_consent_4 rfl (lv_at hl 1 rfl) ?_
  refine hs_callr (As := [.int (nI q)]) ⟨hx, hb, hml, hown, hts⟩ (kX1_personAt l D d L σ A q P hok.hP hq hok.1) (cwV 1 hts gX4_consent_X1_personAt rfl rfl rfl (by decide +kernel) ⟨Nat.le_of_ble_eq_true rfl, Nat.le_of_ble_eq_true rfl⟩) hK hE hW hS hs_ix0 (ci := cHo) (r := (RX1, TX1, 11)) rfl rfl rfl rfl hl.1 (Nat.le_of_ble_eq_true rfl) dX4_consent_5 ⟨Nat.zero_le _, Nat.zero_le _⟩ rfl (fun H locs hW hS => ?_)
  refine lv_astore_n (lv' := [(3, .ref (L 4 q)), (0, .ref w), (1, .int (nI q)), (2, .int 1)]) hx hb dX4_consent_8 rfl hl (by decide) rfl (fun ls hl => ?_)
  refine lv_aload_n hx hb dX4_consent_9 rfl (lv_at hl 0 rfl) ?_
  refine lv_iload_n hx hb dX4_consent_10 rfl (lv_at hl 3 rfl) ?_
  refine hs_put (ci := cPe) (C := RX2) (T := TX2) (N := 8) (ty := .boolean) hx hb hts (by decide +kernel) tyX2 tyX2_ok nmX2 hown hK hW hS 4 q (hs_ix4 (show q < 10 by omega)) rfl rfl 5 (by decide) (hts (.fieldLink RX4 56 "Waxrow$Person" "consents" "Z") (by decide +kernel)) (fun _ h9 => h9) rfl (by decide +kernel) rfl rfl (Nat.le_of_ble_eq_true rfl) (hs_sg σ 4 q 5 1) (by simp [hs_ct, hs_sg]) (hs_off _ _ _ _ _) dX4_consent_11 (fun H locs hW hS => ?_)
  refine lv_iload_n hx hb dX4_consent_14 rfl (lv_at hl 3 rfl) ?_
  refine lv_if_eq (tgt := 22) hx hb dX4_consent_15 (by decide) (fun c_15 => ?_) (fun c_15 => ?_)
  · exact absurd c_15 (by decide +kernel)
  · refine lv_iconst (v := 0) hx hb dX4_consent_18 (by decide) ?_
    refine lv_goto (tgt := 30) hx hb dX4_consent_19 (by decide) ?_
    exact W.iret (v := 0) hx hb hr (fun t ht hW9 => ⟨⟨0, (hs_sg σ 4 q 5 1), rfl, ⟨rfl, rfl⟩, ⟨by rw [ht]; exact hW, va_K.moved hW9.alike hK⟩⟩, hS.F ht⟩) hS.2.2 dX4_consent_30
set_option maxHeartbeats 4000000 in
set_option maxRecDepth 100000 in
/-- measure -/
theorem kX4_measure (l : Launch) (D : va_G) (d : hs_Dm) (L : hs_Lo) (σ : hs_St) (A : Nat → Prop) (w : Nat) (L2 : hs_Lo) (hwA : ¬ A w) (P F R : Nat) (hok : hs_ok P F R σ) (q : Nat) (hq : q < P) (j : Nat) (hj : j < 6) (x y : Int32) (hx0 : ¬ x < 0) (hx9 : x ≤ 99) (hy0 : ¬ y < 0) (hy9 : y ≤ 20) : wx_Mi l yX4_measure wsX4_measure ({ frames := 2, cells := 0, slots := 0, locals := 50 }) D d w L L2 σ A [.ref w, .int (nI q), .int (nI j), .int x, .int y] (fun r τ => sp_learn σ q j (if x - y < 0 then 0 else x - y) (if 99 < x + y then 99 else x + y) = τ ∧ τ 8 q j - τ 7 q j = r) := by
  refine Met.ofW (cc := cX4_measure) (maxL := 6) (ret := (some .int)) (by decide) rfl ?_
  intro p e s m args below meth c s₁ B hml hv
  obtain ⟨rfl, ⟨⟨hW, hK⟩, hX⟩, hV⟩ := hv
  have hE := hX.1
  have hx := B.exec
  have hb := B.bytes
  have hr := B.returns
  have hts := atoms_spec (ws := wsX4_measure) B.pre
  have hown : s.vm.findClass RX4 = some m.cls := findClass_of_methodNamed B.named
  have hlocks := B.notSynchronized
  have hS : va_S A s.heap s.heap [] := va_S.rf
  have hW : hs_W D d L σ A s.heap := hW
  have hl := lv_entry ([.ref w, .int (nI q), .int (nI j), .int x, .int y]) (n := 6) (Nat.le_of_ble_eq_true rfl)
  rw [lg_entry_eq]
  generalize (lg_sl ([.ref w, .int (nI q), .int (nI j), .int x, .int y]) ++ List.replicate (6 - (lg_sl ([.ref w, .int (nI q), .int (nI j), .int x, .int y])).length) Slot.unset).toArray = ls at hl ⊢
  have hl : lv_has ls 6 [(0, .ref w), (1, .int (nI q)), (2, .int (nI j)), (3, .int x), (4, .int y)] := hl
  have h10 := hok.1
  have h8 := hok.2.1
  have h5 := hok.2.2.1
  have hd_ := hok.hd
  refine lv_aload_n hx hb dX4_measure_0 rfl (lv_at hl 0 rfl) ?_
  refine va_get (D := D) (ci := cWx) (C := RX4) (T := TX4) (N := 2) (ws := [(w, .inr (cWx, [.ref (L 0 0), .ref (L2 0 0)]))]) (v := .ref (L 0 0)) hx hb hts (by decide +kernel) hown hK (wx_one hV hS hwA) 0 rfl rfl 0 (by decide) (hts (.fieldLink RX4 10 "Waxrow" "house" "LWaxrow$House;") (by decide +kernel)) (fun _ h9 => h9) rfl dX4_measure_1 ?_
  refine lv_iload_n hx hb dX4_measure_4 rfl (lv_at hl 1 rfl) ?_
  refine hs_callr (As := [.int (nI q)]) ⟨hx, hb, hml, hown, hts⟩ (kX1_personAt l D d L σ A q P hok.hP hq hok.1) (cwV 1 hts gX4_measure_X1_personAt rfl rfl rfl (by decide +kernel) ⟨Nat.le_of_ble_eq_true rfl, Nat.le_of_ble_eq_true rfl⟩) hK hE hW hS hs_ix0 (ci := cHo) (r := (RX1, TX1, 11)) rfl rfl rfl rfl hl.1 (Nat.le_of_ble_eq_true rfl) dX4_measure_5 ⟨Nat.zero_le _, Nat.zero_le _⟩ rfl (fun H locs hW hS => ?_)
  refine lv_astore (lv' := [(5, .ref (L 4 q)), (0, .ref w), (1, .int (nI q)), (2, .int (nI j)), (3, .int x), (4, .int y)]) hx hb dX4_measure_8 hl (by decide) rfl (fun ls hl => ?_)
  refine lv_iload_n hx hb dX4_measure_10 rfl (lv_at hl 3 rfl) ?_
  refine lv_bipush (v := 6) hx hb dX4_measure_11 (by decide) ?_
  refine hs_runv (As := [.int (nI j), .int 6]) ⟨hx, hb, hml, hown, hts⟩ (kX4_checkIndex l D d L σ A (nI j) 6 (nI_pos (by omega)) (by rw [sp_six]; exact nI_lt hj (by decide))) (va_cwS 2 hts gX4_measure_X4_checkIndex rfl rfl rfl (by decide +kernel) ⟨Nat.le_of_ble_eq_true rfl, Nat.le_of_ble_eq_true rfl⟩) hK hE hW hS rfl hl.1 (Nat.le_of_ble_eq_true rfl) dX4_measure_13 ⟨Nat.zero_le _, Nat.zero_le _⟩ rfl (fun τ_ H locs hp hW hS => ?_)
  obtain rfl := hp
  refine lv_iload_n hx hb dX4_measure_16 rfl (lv_at hl 4 rfl) ?_
  refine lv_iconst (v := 0) hx hb dX4_measure_17 (by decide) ?_
  refine lv_bipush (v := 99) hx hb dX4_measure_18 (by decide) ?_
  refine hs_runv (As := [.int x, .int 0, .int 99]) ⟨hx, hb, hml, hown, hts⟩ (kX4_checkArgument l D d L σ A x 0 99 hx0 hx9) (va_cwS 3 hts gX4_measure_X4_checkArgument rfl rfl rfl (by decide +kernel) ⟨Nat.le_of_ble_eq_true rfl, Nat.le_of_ble_eq_true rfl⟩) hK hE hW hS rfl hl.1 (Nat.le_of_ble_eq_true rfl) dX4_measure_20 ⟨Nat.zero_le _, Nat.zero_le _⟩ rfl (fun τ_ H locs hp hW hS => ?_)
  obtain rfl := hp
  refine lv_iload hx hb dX4_measure_23 (lv_at hl 5 rfl) ?_
  refine lv_iconst (v := 0) hx hb dX4_measure_25 (by decide) ?_
  refine lv_bipush (v := 20) hx hb dX4_measure_26 (by decide) ?_
  refine hs_runv (As := [.int y, .int 0, .int 20]) ⟨hx, hb, hml, hown, hts⟩ (kX4_checkArgument l D d L σ A y 0 20 hy0 hy9) (va_cwS 3 hts gX4_measure_X4_checkArgument rfl rfl rfl (by decide +kernel) ⟨Nat.le_of_ble_eq_true rfl, Nat.le_of_ble_eq_true rfl⟩) hK hE hW hS rfl hl.1 (Nat.le_of_ble_eq_true rfl) dX4_measure_28 ⟨Nat.zero_le _, Nat.zero_le _⟩ rfl (fun τ_ H locs hp hW hS => ?_)
  obtain rfl := hp
  refine lv_aload hx hb dX4_measure_31 (lv_at hl 0 rfl) ?_
  refine lv_iload_n hx hb dX4_measure_33 rfl (lv_at hl 3 rfl) ?_
  refine lv_iload_n hx hb dX4_measure_34 rfl (lv_at hl 4 rfl) ?_
  refine lv_iload hx hb dX4_measure_35 (lv_at hl 5 rfl) ?_
  refine lv_isub hx hb dX4_measure_37 ?_
  refine lv_iconst (v := 0) hx hb dX4_measure_38 (by decide) ?_
  refine va_mmax hx hb (hml.trans hl.1.symm) hown (hts (.methodLink RX4 64 Lib.Math.max.name) (by decide +kernel)) (hts (.static Lib.Math.max.name) (by decide +kernel)) (hts (.initialized "java/lang/Math") (by decide +kernel)) (hts (.code Lib.Math.max.name Lib.Math.max.code 2 (some .int)) (by decide +kernel)) (Nat.le_of_ble_eq_true rfl) (Nat.le_of_ble_eq_true rfl) (Nat.zero_le _) (Nat.zero_le _) dX4_measure_39 ?_
  refine lv_iload_n hx hb dX4_measure_42 rfl (lv_at hl 4 rfl) ?_
  refine lv_iload hx hb dX4_measure_43 (lv_at hl 5 rfl) ?_
  refine lv_iadd hx hb dX4_measure_45 ?_
  refine lv_bipush (v := 99) hx hb dX4_measure_46 (by decide) ?_
  refine va_mmin hx hb (hml.trans hl.1.symm) hown (hts (.methodLink RX4 70 Lib.Math.min.name) (by decide +kernel)) (hts (.static Lib.Math.min.name) (by decide +kernel)) (hts (.initialized "java/lang/Math") (by decide +kernel)) (hts (.code Lib.Math.min.name Lib.Math.min.code 2 (some .int)) (by decide +kernel)) (Nat.le_of_ble_eq_true rfl) (Nat.le_of_ble_eq_true rfl) (Nat.zero_le _) (Nat.zero_le _) dX4_measure_48 ?_
  refine hs_callv (As := [.int (nI j), .int (if (x - y) < 0 then 0 else (x - y)), .int (if 99 < (x + y) then 99 else (x + y))]) ⟨hx, hb, hml, hown, hts⟩ (kX2_learn l D d L σ A q (show q < 10 by omega) j hj (if (x - y) < 0 then 0 else (x - y)) (if 99 < (x + y) then 99 else (x + y))) (cwV 3 hts gX4_measure_X2_learn rfl rfl rfl (by decide +kernel) ⟨Nat.le_of_ble_eq_true rfl, Nat.le_of_ble_eq_true rfl⟩) hK hE hW hS (hs_ix4 (show q < 10 by omega)) (ci := cPe) (r := (RX2, TX2, 8)) rfl rfl rfl rfl hl.1 (Nat.le_of_ble_eq_true rfl) dX4_measure_51 ⟨Nat.zero_le _, Nat.zero_le _⟩ rfl (fun τ_ H locs hp hW hS => ?_)
  obtain rfl := hp
  refine lv_aload hx hb dX4_measure_54 (lv_at hl 0 rfl) ?_
  refine va_get (D := D) (ci := cPe) (C := RX2) (T := TX2) (N := 8) (ws := [(L 4 q, hs_ct d L (sp_learn σ q j (if (x - y) < 0 then 0 else (x - y)) (if 99 < (x + y) then 99 else (x + y))) 4 q)]) (v := .ref (L 8 q)) hx hb hts (by decide +kernel) hown hK (hW.one (hs_ix4 (show q < 10 by omega))) 0 rfl rfl 4 (by decide) (hts (.fieldLink RX4 76 "Waxrow$Person" "high" "[I") (by decide +kernel)) (fun _ h9 => h9) rfl dX4_measure_56 ?_
  refine lv_iload_n hx hb dX4_measure_59 rfl (lv_at hl 3 rfl) ?_
  refine hs_iald (n := 6) (f := (sp_learn σ q j (if (x - y) < 0 then 0 else (x - y)) (if 99 < (x + y) then 99 else (x + y))) 8 q) hx hb hK hW 8 q (hs_ix8 (show q < 10 by omega)) rfl (vp_in_nI (show j < 6 by omega) (by decide)) dX4_measure_60 ?_
  rw [show (sp_learn σ q j (if (x - y) < 0 then 0 else (x - y)) (if 99 < (x + y) then 99 else (x + y))) 8 q (nI j : Int32).toNatClampNeg = (sp_learn σ q j (if (x - y) < 0 then 0 else (x - y)) (if 99 < (x + y) then 99 else (x + y))) 8 q j from by simp [hs_sg, nI_clamp (show j < 2 ^ 31 by omega)]]
  refine lv_aload hx hb dX4_measure_61 (lv_at hl 0 rfl) ?_
  refine va_get (D := D) (ci := cPe) (C := RX2) (T := TX2) (N := 8) (ws := [(L 4 q, hs_ct d L (sp_learn σ q j (if (x - y) < 0 then 0 else (x - y)) (if 99 < (x + y) then 99 else (x + y))) 4 q)]) (v := .ref (L 7 q)) hx hb hts (by decide +kernel) hown hK (hW.one (hs_ix4 (show q < 10 by omega))) 0 rfl rfl 3 (by decide) (hts (.fieldLink RX4 79 "Waxrow$Person" "low" "[I") (by decide +kernel)) (fun _ h9 => h9) rfl dX4_measure_63 ?_
  refine lv_iload_n hx hb dX4_measure_66 rfl (lv_at hl 3 rfl) ?_
  refine hs_iald (n := 6) (f := (sp_learn σ q j (if (x - y) < 0 then 0 else (x - y)) (if 99 < (x + y) then 99 else (x + y))) 7 q) hx hb hK hW 7 q (hs_ix7 (show q < 10 by omega)) rfl (vp_in_nI (show j < 6 by omega) (by decide)) dX4_measure_67 ?_
  rw [show (sp_learn σ q j (if (x - y) < 0 then 0 else (x - y)) (if 99 < (x + y) then 99 else (x + y))) 7 q (nI j : Int32).toNatClampNeg = (sp_learn σ q j (if (x - y) < 0 then 0 else (x - y)) (if 99 < (x + y) then 99 else (x + y))) 7 q j from by simp [hs_sg, nI_clamp (show j < 2 ^ 31 by omega)]]
  refine lv_isub hx hb dX4_measure_68 ?_
  exact W.iret (v := ((sp_learn σ q j (if (x - y) < 0 then 0 else (x - y)) (if 99 < (x + y) then 99 else (x + y))) 8 q j) - ((sp_learn σ q j (if (x - y) < 0 then 0 else (x - y)) (if 99 < (x + y) then 99 else (x + y))) 7 q j)) hx hb hr (fun t ht hW9 => ⟨⟨(((sp_learn σ q j (if (x - y) < 0 then 0 else (x - y)) (if 99 < (x + y) then 99 else (x + y))) 8 q j) - ((sp_learn σ q j (if (x - y) < 0 then 0 else (x - y)) (if 99 < (x + y) then 99 else (x + y))) 7 q j)), (sp_learn σ q j (if (x - y) < 0 then 0 else (x - y)) (if 99 < (x + y) then 99 else (x + y))), rfl, ⟨rfl, rfl⟩, ⟨by rw [ht]; exact hW, va_K.moved hW9.alike hK⟩⟩, hS.F ht⟩) hS.2.2 dX4_measure_69
set_option maxHeartbeats 4000000 in
set_option maxRecDepth 100000 in
/-- figure -/
theorem kX4_figure (l : Launch) (D : va_G) (d : hs_Dm) (L : hs_Lo) (σ : hs_St) (A : Nat → Prop) (w : Nat) (L2 : hs_Lo) (hwA : ¬ A w) (P F R : Nat) (hok : hs_ok P F R σ) (hF7 : F < 8) (q : Nat) (hq : q < P) : wx_Mi l yX4_figure wsX4_figure ({ frames := 3, cells := 0, slots := 0, locals := 68 }) D d w L L2 σ A [.ref w, .int (nI q)] (fun r τ => nI F = r ∧ sp_newF σ F q = τ) := by
  refine Met.ofW (cc := cX4_figure) (maxL := 3) (ret := (some .int)) (by decide) rfl ?_
  intro p e s m args below meth c s₁ B hml hv
  obtain ⟨rfl, ⟨⟨hW, hK⟩, hX⟩, hV⟩ := hv
  have hE := hX.1
  have hx := B.exec
  have hb := B.bytes
  have hr := B.returns
  have hts := atoms_spec (ws := wsX4_figure) B.pre
  have hown : s.vm.findClass RX4 = some m.cls := findClass_of_methodNamed B.named
  have hlocks := B.notSynchronized
  have hS : va_S A s.heap s.heap [] := va_S.rf
  have hW : hs_W D d L σ A s.heap := hW
  have hl := lv_entry ([.ref w, .int (nI q)]) (n := 3) (Nat.le_of_ble_eq_true rfl)
  rw [lg_entry_eq]
  generalize (lg_sl ([.ref w, .int (nI q)]) ++ List.replicate (3 - (lg_sl ([.ref w, .int (nI q)])).length) Slot.unset).toArray = ls at hl ⊢
  have hl : lv_has ls 3 [(0, .ref w), (1, .int (nI q))] := hl
  have h10 := hok.1
  have h8 := hok.2.1
  have h5 := hok.2.2.1
  have hd_ := hok.hd
  refine lv_aload_n hx hb dX4_figure_0 rfl (lv_at hl 0 rfl) ?_
  refine va_get (D := D) (ci := cWx) (C := RX4) (T := TX4) (N := 2) (ws := [(w, .inr (cWx, [.ref (L 0 0), .ref (L2 0 0)]))]) (v := .ref (L 0 0)) hx hb hts (by decide +kernel) hown hK (wx_one hV hS hwA) 0 rfl rfl 0 (by decide) (hts (.fieldLink RX4 10 "Waxrow" "house" "LWaxrow$House;") (by decide +kernel)) (fun _ h9 => h9) rfl dX4_figure_1 ?_
  refine lv_iload_n hx hb dX4_figure_4 rfl (lv_at hl 1 rfl) ?_
  refine hs_callr (As := [.int (nI q)]) ⟨hx, hb, hml, hown, hts⟩ (kX1_personAt l D d L σ A q P hok.hP hq hok.1) (cwV 1 hts gX4_figure_X1_personAt rfl rfl rfl (by decide +kernel) ⟨Nat.le_of_ble_eq_true rfl, Nat.le_of_ble_eq_true rfl⟩) hK hE hW hS hs_ix0 (ci := cHo) (r := (RX1, TX1, 11)) rfl rfl rfl rfl hl.1 (Nat.le_of_ble_eq_true rfl) dX4_figure_5 ⟨Nat.zero_le _, Nat.zero_le _⟩ rfl (fun H locs hW hS => ?_)
  refine lv_astore_n (lv' := [(2, .ref (L 4 q)), (0, .ref w), (1, .int (nI q))]) hx hb dX4_figure_8 rfl hl (by decide) rfl (fun ls hl => ?_)
  refine lv_aload_n hx hb dX4_figure_9 rfl (lv_at hl 1 rfl) ?_
  refine va_get (D := D) (ci := cWx) (C := RX4) (T := TX4) (N := 2) (ws := [(w, .inr (cWx, [.ref (L 0 0), .ref (L2 0 0)]))]) (v := .ref (L 0 0)) hx hb hts (by decide +kernel) hown hK (wx_one hV hS hwA) 0 rfl rfl 0 (by decide) (hts (.fieldLink RX4 10 "Waxrow" "house" "LWaxrow$House;") (by decide +kernel)) (fun _ h9 => h9) rfl dX4_figure_10 ?_
  refine va_get (D := D) (ci := cHo) (C := RX1) (T := TX1) (N := 11) (ws := [(L 0 0, hs_ct d L σ 0 0)]) (v := .int (σ 0 0 4)) hx hb hts (by decide +kernel) hown hK (hW.one hs_ix0) 0 rfl rfl 4 (by decide) (hts (.fieldLink RX4 88 "Waxrow$House" "figureCount" "I") (by decide +kernel)) (fun _ h9 => h9) rfl dX4_figure_13 ?_
  refine lv_bipush (v := 8) hx hb dX4_figure_16 (by decide) ?_
  refine lv_icmp_ge (tgt := 25) hx hb dX4_figure_18 (by decide) (fun c_18 => ?_) (fun c_18 => ?_)
  · exact absurd c_18 (sp_ge hok.hF 8 (N := 8) (by decide +kernel) hF7 (by decide))
  · refine lv_iconst (v := 1) hx hb dX4_figure_21 (by decide) ?_
    refine lv_goto (tgt := 26) hx hb dX4_figure_22 (by decide) ?_
    refine hs_runv (As := [.int 1]) ⟨hx, hb, hml, hown, hts⟩ (kX4_checkState l D d L σ A 1 (by decide +kernel)) (va_cwS 1 hts gX4_figure_X4_checkState rfl rfl rfl (by decide +kernel) ⟨Nat.le_of_ble_eq_true rfl, Nat.le_of_ble_eq_true rfl⟩) hK hE hW hS rfl hl.1 (Nat.le_of_ble_eq_true rfl) dX4_figure_26 ⟨Nat.zero_le _, Nat.zero_le _⟩ rfl (fun τ_ H locs hp hW hS => ?_)
    obtain rfl := hp
    refine lv_aload_n hx hb dX4_figure_29 rfl (lv_at hl 1 rfl) ?_
    refine va_get (D := D) (ci := cWx) (C := RX4) (T := TX4) (N := 2) (ws := [(w, .inr (cWx, [.ref (L 0 0), .ref (L2 0 0)]))]) (v := .ref (L 0 0)) hx hb hts (by decide +kernel) hown hK (wx_one hV hS hwA) 0 rfl rfl 0 (by decide) (hts (.fieldLink RX4 10 "Waxrow" "house" "LWaxrow$House;") (by decide +kernel)) (fun _ h9 => h9) rfl dX4_figure_30 ?_
    refine lv_aload_n hx hb dX4_figure_33 rfl (lv_at hl 0 rfl) ?_
    refine hs_calli (As := [.ref (L 4 q)]) ⟨hx, hb, hml, hown, hts⟩ (kX1_addFigure l D d L σ A F hok.hF hF7 q (show q < 10 by omega)) (cwV 1 hts gX4_figure_X1_addFigure rfl rfl rfl (by decide +kernel) ⟨Nat.le_of_ble_eq_true rfl, Nat.le_of_ble_eq_true rfl⟩) hK hE hW hS hs_ix0 (ci := cHo) (r := (RX1, TX1, 11)) rfl rfl rfl rfl hl.1 (Nat.le_of_ble_eq_true rfl) dX4_figure_34 ⟨Nat.zero_le _, Nat.zero_le _⟩ rfl (fun r_ τ_ H locs hp hW hS => ?_)
    obtain ⟨rfl, rfl⟩ := hp
    exact W.iret (v := nI F) hx hb hr (fun t ht hW9 => ⟨⟨(nI F), (sp_newF σ F q), rfl, ⟨rfl, rfl⟩, ⟨by rw [ht]; exact hW, va_K.moved hW9.alike hK⟩⟩, hS.F ht⟩) hS.2.2 dX4_figure_37
set_option maxHeartbeats 4000000 in
set_option maxRecDepth 100000 in
/-- work -/
theorem kX4_work (l : Launch) (D : va_G) (d : hs_Dm) (L : hs_Lo) (σ : hs_St) (A : Nat → Prop) (w : Nat) (L2 : hs_Lo) (hwA : ¬ A w) (P F R : Nat) (hok : hs_ok P F R σ) (f : Nat) (hf : f < F) (x : Int32) (hx0 : ¬ x < 0) (hx9 : x ≤ 9) (hs6 : ¬ 6 ≤ σ 9 f 2) (hm7 : ¬ σ 9 f 7 = 7) (ha : ¬ 12 < sp_hands σ F - σ 9 f 4 + x) : wx_Mi l yX4_work wsX4_work ({ frames := 2, cells := 0, slots := 0, locals := 45 }) D d w L L2 σ A [.ref w, .int (nI f), .int x] (fun r τ => sp_hands σ F - σ 9 f 4 + x = r ∧ hs_sg σ 9 f 4 x = τ) := by
  refine Met.ofW (cc := cX4_work) (maxL := 5) (ret := (some .int)) (by decide) rfl ?_
  intro p e s m args below meth c s₁ B hml hv
  obtain ⟨rfl, ⟨⟨hW, hK⟩, hX⟩, hV⟩ := hv
  have hE := hX.1
  have hx := B.exec
  have hb := B.bytes
  have hr := B.returns
  have hts := atoms_spec (ws := wsX4_work) B.pre
  have hown : s.vm.findClass RX4 = some m.cls := findClass_of_methodNamed B.named
  have hlocks := B.notSynchronized
  have hS : va_S A s.heap s.heap [] := va_S.rf
  have hW : hs_W D d L σ A s.heap := hW
  have hl := lv_entry ([.ref w, .int (nI f), .int x]) (n := 5) (Nat.le_of_ble_eq_true rfl)
  rw [lg_entry_eq]
  generalize (lg_sl ([.ref w, .int (nI f), .int x]) ++ List.replicate (5 - (lg_sl ([.ref w, .int (nI f), .int x])).length) Slot.unset).toArray = ls at hl ⊢
  have hl : lv_has ls 5 [(0, .ref w), (1, .int (nI f)), (2, .int x)] := hl
  have h10 := hok.1
  have h8 := hok.2.1
  have h5 := hok.2.2.1
  have hd_ := hok.hd
  refine lv_aload_n hx hb dX4_work_0 rfl (lv_at hl 0 rfl) ?_
  refine va_get (D := D) (ci := cWx) (C := RX4) (T := TX4) (N := 2) (ws := [(w, .inr (cWx, [.ref (L 0 0), .ref (L2 0 0)]))]) (v := .ref (L 0 0)) hx hb hts (by decide +kernel) hown hK (wx_one hV hS hwA) 0 rfl rfl 0 (by decide) (hts (.fieldLink RX4 10 "Waxrow" "house" "LWaxrow$House;") (by decide +kernel)) (fun _ h9 => h9) rfl dX4_work_1 ?_
  refine lv_iload_n hx hb dX4_work_4 rfl (lv_at hl 1 rfl) ?_
  refine hs_callr (As := [.int (nI f)]) ⟨hx, hb, hml, hown, hts⟩ (kX1_figureAt l D d L σ A f F hok.hF hf hok.2.1) (cwV 1 hts gX4_work_X1_figureAt rfl rfl rfl (by decide +kernel) ⟨Nat.le_of_ble_eq_true rfl, Nat.le_of_ble_eq_true rfl⟩) hK hE hW hS hs_ix0 (ci := cHo) (r := (RX1, TX1, 11)) rfl rfl rfl rfl hl.1 (Nat.le_of_ble_eq_true rfl) dX4_work_5 ⟨Nat.zero_le _, Nat.zero_le _⟩ rfl (fun H locs hW hS => ?_)
  refine lv_astore_n (lv' := [(3, .ref (L 9 f)), (0, .ref w), (1, .int (nI f)), (2, .int x)]) hx hb dX4_work_8 rfl hl (by decide) rfl (fun ls hl => ?_)
  refine lv_iload_n hx hb dX4_work_9 rfl (lv_at hl 3 rfl) ?_
  refine lv_iconst (v := 0) hx hb dX4_work_10 (by decide) ?_
  refine lv_bipush (v := 9) hx hb dX4_work_11 (by decide) ?_
  refine hs_runv (As := [.int x, .int 0, .int 9]) ⟨hx, hb, hml, hown, hts⟩ (kX4_checkArgument l D d L σ A x 0 9 hx0 hx9) (va_cwS 3 hts gX4_work_X4_checkArgument rfl rfl rfl (by decide +kernel) ⟨Nat.le_of_ble_eq_true rfl, Nat.le_of_ble_eq_true rfl⟩) hK hE hW hS rfl hl.1 (Nat.le_of_ble_eq_true rfl) dX4_work_13 ⟨Nat.zero_le _, Nat.zero_le _⟩ rfl (fun τ_ H locs hp hW hS => ?_)
  obtain rfl := hp
  refine lv_aload_n hx hb dX4_work_16 rfl (lv_at hl 1 rfl) ?_
  refine va_get (D := D) (ci := cWx) (C := RX4) (T := TX4) (N := 2) (ws := [(w, .inr (cWx, [.ref (L 0 0), .ref (L2 0 0)]))]) (v := .ref (L 0 0)) hx hb hts (by decide +kernel) hown hK (wx_one hV hS hwA) 0 rfl rfl 0 (by decide) (hts (.fieldLink RX4 10 "Waxrow" "house" "LWaxrow$House;") (by decide +kernel)) (fun _ h9 => h9) rfl dX4_work_17 ?_
  refine hs_calli (As := []) ⟨hx, hb, hml, hown, hts⟩ (kX1_allHands l D d L σ A F hok.hF hok.2.1 ) (cwV 0 hts gX4_work_X1_allHands rfl rfl rfl (by decide +kernel) ⟨Nat.le_of_ble_eq_true rfl, Nat.le_of_ble_eq_true rfl⟩) hK hE hW hS hs_ix0 (ci := cHo) (r := (RX1, TX1, 11)) rfl rfl rfl rfl hl.1 (Nat.le_of_ble_eq_true rfl) dX4_work_20 ⟨Nat.zero_le _, Nat.zero_le _⟩ rfl (fun r_ τ_ H locs hp hW hS => ?_)
  obtain ⟨rfl, rfl⟩ := hp
  refine lv_aload_n hx hb dX4_work_23 rfl (lv_at hl 0 rfl) ?_
  refine va_get (D := D) (ci := cFi) (C := RX0) (T := TX0) (N := 11) (ws := [(L 9 f, hs_ct d L σ 9 f)]) (v := .int (σ 9 f 4)) hx hb hts (by decide +kernel) hown hK (hW.one (hs_ix9 (show f < 8 by omega))) 0 rfl rfl 4 (by decide) (hts (.fieldLink RX4 102 "Waxrow$Figure" "hands" "I") (by decide +kernel)) (fun _ h9 => h9) rfl dX4_work_24 ?_
  refine lv_isub hx hb dX4_work_27 ?_
  refine lv_iload_n hx hb dX4_work_28 rfl (lv_at hl 3 rfl) ?_
  refine lv_iadd hx hb dX4_work_29 ?_
  refine lv_istore (lv' := [(4, .int (((sp_hands σ F) - (σ 9 f 4)) + x)), (3, .ref (L 9 f)), (0, .ref w), (1, .int (nI f)), (2, .int x)]) hx hb dX4_work_30 hl (by decide) rfl (fun ls hl => ?_)
  refine lv_aload_n hx hb dX4_work_32 rfl (lv_at hl 1 rfl) ?_
  refine va_get (D := D) (ci := cFi) (C := RX0) (T := TX0) (N := 11) (ws := [(L 9 f, hs_ct d L σ 9 f)]) (v := .int (σ 9 f 2)) hx hb hts (by decide +kernel) hown hK (hW.one (hs_ix9 (show f < 8 by omega))) 0 rfl rfl 2 (by decide) (hts (.fieldLink RX4 107 "Waxrow$Figure" "step" "I") (by decide +kernel)) (fun _ h9 => h9) rfl dX4_work_33 ?_
  refine lv_bipush (v := 6) hx hb dX4_work_36 (by decide) ?_
  refine lv_icmp_ge (tgt := 61) hx hb dX4_work_38 (by decide) (fun c_38 => ?_) (fun c_38 => ?_)
  · exact absurd c_38 hs6
  · refine lv_aload_n hx hb dX4_work_41 rfl (lv_at hl 1 rfl) ?_
    refine va_get (D := D) (ci := cFi) (C := RX0) (T := TX0) (N := 11) (ws := [(L 9 f, hs_ct d L σ 9 f)]) (v := .int (σ 9 f 7)) hx hb hts (by decide +kernel) hown hK (hW.one (hs_ix9 (show f < 8 by omega))) 0 rfl rfl 7 (by decide) (hts (.fieldLink RX4 110 "Waxrow$Figure" "place" "I") (by decide +kernel)) (fun _ h9 => h9) rfl dX4_work_42 ?_
    refine lv_bipush (v := 7) hx hb dX4_work_45 (by decide) ?_
    refine lv_icmp_eq (tgt := 61) hx hb dX4_work_47 (by decide) (fun c_47 => ?_) (fun c_47 => ?_)
    · exact absurd c_47 hm7
    · refine lv_iload hx hb dX4_work_50 (lv_at hl 0 rfl) ?_
      refine lv_bipush (v := 12) hx hb dX4_work_52 (by decide) ?_
      refine lv_icmp_gt (tgt := 61) hx hb dX4_work_54 (by decide) (fun c_54 => ?_) (fun c_54 => ?_)
      · exact absurd c_54 ha
      · refine lv_iconst (v := 1) hx hb dX4_work_57 (by decide) ?_
        refine lv_goto (tgt := 62) hx hb dX4_work_58 (by decide) ?_
        refine hs_runv (As := [.int 1]) ⟨hx, hb, hml, hown, hts⟩ (kX4_checkState l D d L σ A 1 (by decide +kernel)) (va_cwS 1 hts gX4_work_X4_checkState rfl rfl rfl (by decide +kernel) ⟨Nat.le_of_ble_eq_true rfl, Nat.le_of_ble_eq_true rfl⟩) hK hE hW hS rfl hl.1 (Nat.le_of_ble_eq_true rfl) dX4_work_62 ⟨Nat.zero_le _, Nat.zero_le _⟩ rfl (fun τ_ H locs hp hW hS => ?_)
        obtain rfl := hp
        refine lv_aload_n hx hb dX4_work_65 rfl (lv_at hl 1 rfl) ?_
        refine lv_iload_n hx hb dX4_work_66 rfl (lv_at hl 4 rfl) ?_
        refine hs_put (ci := cFi) (C := RX0) (T := TX0) (N := 11) (ty := .int) hx hb hts (by decide +kernel) tyX0 tyX0_ok nmX0 hown hK hW hS 9 f (hs_ix9 (show f < 8 by omega)) rfl rfl 4 (by decide) (hts (.fieldLink RX4 102 "Waxrow$Figure" "hands" "I") (by decide +kernel)) (fun _ h9 => h9) rfl (by decide +kernel) rfl rfl (Nat.le_of_ble_eq_true rfl) (hs_sg σ 9 f 4 x) (by simp [hs_ct, hs_sg]) (hs_off _ _ _ _ _) dX4_work_67 (fun H locs hW hS => ?_)
        refine lv_iload hx hb dX4_work_70 (lv_at hl 0 rfl) ?_
        exact W.iret (v := ((sp_hands σ F) - (σ 9 f 4)) + x) hx hb hr (fun t ht hW9 => ⟨⟨(((sp_hands σ F) - (σ 9 f 4)) + x), (hs_sg σ 9 f 4 x), rfl, ⟨rfl, rfl⟩, ⟨by rw [ht]; exact hW, va_K.moved hW9.alike hK⟩⟩, hS.F ht⟩) hS.2.2 dX4_work_72
set_option maxHeartbeats 4000000 in
set_option maxRecDepth 100000 in
/-- show -/
theorem kX4_show (l : Launch) (D : va_G) (d : hs_Dm) (L : hs_Lo) (σ : hs_St) (A : Nat → Prop) (w : Nat) (L2 : hs_Lo) (hwA : ¬ A w) (P F R : Nat) (hok : hs_ok P F R σ) (f : Nat) (hf : f < F) (r : Nat) (hr5 : r < R) (hrd : ¬ sp_isReady σ f = 0) (hcs : ¬ σ 4 (σ 9 f 0).toNatClampNeg 5 = 0) (hlk : ¬ sp_likeness σ f < 30) (hfr : ¬ σ 10 r 1 ≤ sp_figIn σ (nI r) (nI r) F) (hno : sp_shownFrom σ (σ 9 f 0).toNatClampNeg F 0 = -1) : wx_Mi l yX4_show wsX4_show ({ frames := 4, cells := 0, slots := 0, locals := 90 }) D d w L L2 σ A [.ref w, .int (nI f), .int (nI r)] (fun u τ => hs_sg σ 9 f 7 (nI r) = τ ∧ sp_draw τ f = u) := by
  refine Met.ofW (cc := cX4_show) (maxL := 5) (ret := (some .int)) (by decide) rfl ?_
  intro p e s m args below meth c s₁ B hml hv
  obtain ⟨rfl, ⟨⟨hW, hK⟩, hX⟩, hV⟩ := hv
  have hE := hX.1
  have hx := B.exec
  have hb := B.bytes
  have hr := B.returns
  have hts := atoms_spec (ws := wsX4_show) B.pre
  have hown : s.vm.findClass RX4 = some m.cls := findClass_of_methodNamed B.named
  have hlocks := B.notSynchronized
  have hS : va_S A s.heap s.heap [] := va_S.rf
  have hW : hs_W D d L σ A s.heap := hW
  have hl := lv_entry ([.ref w, .int (nI f), .int (nI r)]) (n := 5) (Nat.le_of_ble_eq_true rfl)
  rw [lg_entry_eq]
  generalize (lg_sl ([.ref w, .int (nI f), .int (nI r)]) ++ List.replicate (5 - (lg_sl ([.ref w, .int (nI f), .int (nI r)])).length) Slot.unset).toArray = ls at hl ⊢
  have hl : lv_has ls 5 [(0, .ref w), (1, .int (nI f)), (2, .int (nI r))] := hl
  have h10 := hok.1
  have h8 := hok.2.1
  have h5 := hok.2.2.1
  have hd_ := hok.hd
  refine lv_aload_n hx hb dX4_show_0 rfl (lv_at hl 0 rfl) ?_
  refine va_get (D := D) (ci := cWx) (C := RX4) (T := TX4) (N := 2) (ws := [(w, .inr (cWx, [.ref (L 0 0), .ref (L2 0 0)]))]) (v := .ref (L 0 0)) hx hb hts (by decide +kernel) hown hK (wx_one hV hS hwA) 0 rfl rfl 0 (by decide) (hts (.fieldLink RX4 10 "Waxrow" "house" "LWaxrow$House;") (by decide +kernel)) (fun _ h9 => h9) rfl dX4_show_1 ?_
  refine lv_iload_n hx hb dX4_show_4 rfl (lv_at hl 1 rfl) ?_
  refine hs_callr (As := [.int (nI f)]) ⟨hx, hb, hml, hown, hts⟩ (kX1_figureAt l D d L σ A f F hok.hF hf hok.2.1) (cwV 1 hts gX4_show_X1_figureAt rfl rfl rfl (by decide +kernel) ⟨Nat.le_of_ble_eq_true rfl, Nat.le_of_ble_eq_true rfl⟩) hK hE hW hS hs_ix0 (ci := cHo) (r := (RX1, TX1, 11)) rfl rfl rfl rfl hl.1 (Nat.le_of_ble_eq_true rfl) dX4_show_5 ⟨Nat.zero_le _, Nat.zero_le _⟩ rfl (fun H locs hW hS => ?_)
  refine lv_astore_n (lv' := [(3, .ref (L 9 f)), (0, .ref w), (1, .int (nI f)), (2, .int (nI r))]) hx hb dX4_show_8 rfl hl (by decide) rfl (fun ls hl => ?_)
  refine lv_aload_n hx hb dX4_show_9 rfl (lv_at hl 1 rfl) ?_
  refine va_get (D := D) (ci := cWx) (C := RX4) (T := TX4) (N := 2) (ws := [(w, .inr (cWx, [.ref (L 0 0), .ref (L2 0 0)]))]) (v := .ref (L 0 0)) hx hb hts (by decide +kernel) hown hK (wx_one hV hS hwA) 0 rfl rfl 0 (by decide) (hts (.fieldLink RX4 10 "Waxrow" "house" "LWaxrow$House;") (by decide +kernel)) (fun _ h9 => h9) rfl dX4_show_10 ?_
  refine lv_iload_n hx hb dX4_show_13 rfl (lv_at hl 3 rfl) ?_
  refine hs_callr (As := [.int (nI r)]) ⟨hx, hb, hml, hown, hts⟩ (kX1_roomAt l D d L σ A r R hok.hR hr5 hok.2.2.1) (cwV 1 hts gX4_show_X1_roomAt rfl rfl rfl (by decide +kernel) ⟨Nat.le_of_ble_eq_true rfl, Nat.le_of_ble_eq_true rfl⟩) hK hE hW hS hs_ix0 (ci := cHo) (r := (RX1, TX1, 11)) rfl rfl rfl rfl hl.1 (Nat.le_of_ble_eq_true rfl) dX4_show_14 ⟨Nat.zero_le _, Nat.zero_le _⟩ rfl (fun H locs hW hS => ?_)
  refine lv_astore (lv' := [(4, .ref (L 10 r)), (3, .ref (L 9 f)), (0, .ref w), (1, .int (nI f)), (2, .int (nI r))]) hx hb dX4_show_17 hl (by decide) rfl (fun ls hl => ?_)
  refine lv_aload_n hx hb dX4_show_19 rfl (lv_at hl 1 rfl) ?_
  refine hs_calli (As := []) ⟨hx, hb, hml, hown, hts⟩ (kX0_isReadyInStore l D d L σ A f (show f < 8 by omega)) (cwV 0 hts gX4_show_X0_isReadyInStore rfl rfl rfl (by decide +kernel) ⟨Nat.le_of_ble_eq_true rfl, Nat.le_of_ble_eq_true rfl⟩) hK hE hW hS (hs_ix9 (show f < 8 by omega)) (ci := cFi) (r := (RX0, TX0, 11)) rfl rfl rfl rfl hl.1 (Nat.le_of_ble_eq_true rfl) dX4_show_20 ⟨Nat.zero_le _, Nat.zero_le _⟩ rfl (fun r_ τ_ H locs hp hW hS => ?_)
  obtain ⟨rfl, rfl⟩ := hp
  refine lv_if_eq (tgt := 40) hx hb dX4_show_23 (by decide) (fun c_23 => ?_) (fun c_23 => ?_)
  · exact absurd c_23 hrd
  · refine lv_aload_n hx hb dX4_show_26 rfl (lv_at hl 1 rfl) ?_
    refine va_get (D := D) (ci := cFi) (C := RX0) (T := TX0) (N := 11) (ws := [(L 9 f, hs_ct d L σ 9 f)]) (v := .ref (L 4 ((σ 9 f 0).toNatClampNeg))) hx hb hts (by decide +kernel) hown hK (hW.one (hs_ix9 (show f < 8 by omega))) 0 rfl rfl 0 (by decide) (hts (.fieldLink RX4 140 "Waxrow$Figure" "head" "LWaxrow$Person;") (by decide +kernel)) (fun _ h9 => h9) rfl dX4_show_27 ?_
    refine va_get (D := D) (ci := cPe) (C := RX2) (T := TX2) (N := 8) (ws := [(L 4 ((σ 9 f 0).toNatClampNeg), hs_ct d L σ 4 ((σ 9 f 0).toNatClampNeg))]) (v := .int (σ 4 ((σ 9 f 0).toNatClampNeg) 5)) hx hb hts (by decide +kernel) hown hK (hW.one (hs_ix4 ((hok.hd f (by omega)).1))) 0 rfl rfl 5 (by decide) (hts (.fieldLink RX4 56 "Waxrow$Person" "consents" "Z") (by decide +kernel)) (fun _ h9 => h9) rfl dX4_show_30 ?_
    refine lv_if_eq (tgt := 40) hx hb dX4_show_33 (by decide) (fun c_33 => ?_) (fun c_33 => ?_)
    · exact absurd c_33 hcs
    · refine lv_iconst (v := 1) hx hb dX4_show_36 (by decide) ?_
      refine lv_goto (tgt := 41) hx hb dX4_show_37 (by decide) ?_
      refine hs_runv (As := [.int 1]) ⟨hx, hb, hml, hown, hts⟩ (kX4_checkState l D d L σ A 1 (by decide +kernel)) (va_cwS 1 hts gX4_show_X4_checkState rfl rfl rfl (by decide +kernel) ⟨Nat.le_of_ble_eq_true rfl, Nat.le_of_ble_eq_true rfl⟩) hK hE hW hS rfl hl.1 (Nat.le_of_ble_eq_true rfl) dX4_show_41 ⟨Nat.zero_le _, Nat.zero_le _⟩ rfl (fun τ_ H locs hp hW hS => ?_)
      obtain rfl := hp
      refine lv_aload_n hx hb dX4_show_44 rfl (lv_at hl 1 rfl) ?_
      refine hs_calli (As := []) ⟨hx, hb, hml, hown, hts⟩ (kX0_likeness l D d L σ A f (show f < 8 by omega) hok.hd) (cwV 0 hts gX4_show_X0_likeness rfl rfl rfl (by decide +kernel) ⟨Nat.le_of_ble_eq_true rfl, Nat.le_of_ble_eq_true rfl⟩) hK hE hW hS (hs_ix9 (show f < 8 by omega)) (ci := cFi) (r := (RX0, TX0, 11)) rfl rfl rfl rfl hl.1 (Nat.le_of_ble_eq_true rfl) dX4_show_45 ⟨Nat.zero_le _, Nat.zero_le _⟩ rfl (fun r_ τ_ H locs hp hW hS => ?_)
      obtain ⟨rfl, rfl⟩ := hp
      refine lv_bipush (v := 30) hx hb dX4_show_48 (by decide) ?_
      refine lv_icmp_lt (tgt := 57) hx hb dX4_show_50 (by decide) (fun c_50 => ?_) (fun c_50 => ?_)
      · exact absurd c_50 hlk
      · refine lv_iconst (v := 1) hx hb dX4_show_53 (by decide) ?_
        refine lv_goto (tgt := 58) hx hb dX4_show_54 (by decide) ?_
        refine hs_runv (As := [.int 1]) ⟨hx, hb, hml, hown, hts⟩ (kX4_checkState l D d L σ A 1 (by decide +kernel)) (va_cwS 1 hts gX4_show_X4_checkState rfl rfl rfl (by decide +kernel) ⟨Nat.le_of_ble_eq_true rfl, Nat.le_of_ble_eq_true rfl⟩) hK hE hW hS rfl hl.1 (Nat.le_of_ble_eq_true rfl) dX4_show_58 ⟨Nat.zero_le _, Nat.zero_le _⟩ rfl (fun τ_ H locs hp hW hS => ?_)
        obtain rfl := hp
        refine lv_aload_n hx hb dX4_show_61 rfl (lv_at hl 2 rfl) ?_
        refine va_get (D := D) (ci := cWx) (C := RX4) (T := TX4) (N := 2) (ws := [(w, .inr (cWx, [.ref (L 0 0), .ref (L2 0 0)]))]) (v := .ref (L 0 0)) hx hb hts (by decide +kernel) hown hK (wx_one hV hS hwA) 0 rfl rfl 0 (by decide) (hts (.fieldLink RX4 10 "Waxrow" "house" "LWaxrow$House;") (by decide +kernel)) (fun _ h9 => h9) rfl dX4_show_62 ?_
        refine lv_iload_n hx hb dX4_show_65 rfl (lv_at hl 4 rfl) ?_
        refine lv_iload_n hx hb dX4_show_66 rfl (lv_at hl 4 rfl) ?_
        refine hs_calli (As := [.int (nI r), .int (nI r)]) ⟨hx, hb, hml, hown, hts⟩ (kX1_figuresIn l D d L σ A (nI r) (nI r) F hok.hF hok.2.1 ) (cwV 2 hts gX4_show_X1_figuresIn rfl rfl rfl (by decide +kernel) ⟨Nat.le_of_ble_eq_true rfl, Nat.le_of_ble_eq_true rfl⟩) hK hE hW hS hs_ix0 (ci := cHo) (r := (RX1, TX1, 11)) rfl rfl rfl rfl hl.1 (Nat.le_of_ble_eq_true rfl) dX4_show_67 ⟨Nat.zero_le _, Nat.zero_le _⟩ rfl (fun r_ τ_ H locs hp hW hS => ?_)
        obtain ⟨rfl, rfl⟩ := hp
        refine lv_aload hx hb dX4_show_70 (lv_at hl 0 rfl) ?_
        refine va_get (D := D) (ci := cRo) (C := RX3) (T := TX3) (N := 2) (ws := [(L 10 r, hs_ct d L σ 10 r)]) (v := .int (σ 10 r 1)) hx hb hts (by decide +kernel) hown hK (hW.one (hs_ix10 (show r < 5 by omega))) 0 rfl rfl 1 (by decide) (hts (.fieldLink RX4 168 "Waxrow$Room" "spots" "I") (by decide +kernel)) (fun _ h9 => h9) rfl dX4_show_72 ?_
        refine lv_icmp_ge (tgt := 82) hx hb dX4_show_75 (by decide) (fun c_75 => ?_) (fun c_75 => ?_)
        · exact absurd c_75 hfr
        · refine lv_iconst (v := 1) hx hb dX4_show_78 (by decide) ?_
          refine lv_goto (tgt := 83) hx hb dX4_show_79 (by decide) ?_
          refine hs_runv (As := [.int 1]) ⟨hx, hb, hml, hown, hts⟩ (kX4_checkState l D d L σ A 1 (by decide +kernel)) (va_cwS 1 hts gX4_show_X4_checkState rfl rfl rfl (by decide +kernel) ⟨Nat.le_of_ble_eq_true rfl, Nat.le_of_ble_eq_true rfl⟩) hK hE hW hS rfl hl.1 (Nat.le_of_ble_eq_true rfl) dX4_show_83 ⟨Nat.zero_le _, Nat.zero_le _⟩ rfl (fun τ_ H locs hp hW hS => ?_)
          obtain rfl := hp
          refine lv_aload_n hx hb dX4_show_86 rfl (lv_at hl 2 rfl) ?_
          refine va_get (D := D) (ci := cWx) (C := RX4) (T := TX4) (N := 2) (ws := [(w, .inr (cWx, [.ref (L 0 0), .ref (L2 0 0)]))]) (v := .ref (L 0 0)) hx hb hts (by decide +kernel) hown hK (wx_one hV hS hwA) 0 rfl rfl 0 (by decide) (hts (.fieldLink RX4 10 "Waxrow" "house" "LWaxrow$House;") (by decide +kernel)) (fun _ h9 => h9) rfl dX4_show_87 ?_
          refine lv_aload_n hx hb dX4_show_90 rfl (lv_at hl 1 rfl) ?_
          refine va_get (D := D) (ci := cFi) (C := RX0) (T := TX0) (N := 11) (ws := [(L 9 f, hs_ct d L σ 9 f)]) (v := .ref (L 4 ((σ 9 f 0).toNatClampNeg))) hx hb hts (by decide +kernel) hown hK (hW.one (hs_ix9 (show f < 8 by omega))) 0 rfl rfl 0 (by decide) (hts (.fieldLink RX4 140 "Waxrow$Figure" "head" "LWaxrow$Person;") (by decide +kernel)) (fun _ h9 => h9) rfl dX4_show_91 ?_
          refine hs_calli (As := [.ref (L 4 ((σ 9 f 0).toNatClampNeg))]) ⟨hx, hb, hml, hown, hts⟩ (kX1_shownOf l D d L σ A ((σ 9 f 0).toNatClampNeg) (hok.hd f (by omega)).1 F hok.hF hok.2.1 hok.hd) (cwV 1 hts gX4_show_X1_shownOf rfl rfl rfl (by decide +kernel) ⟨Nat.le_of_ble_eq_true rfl, Nat.le_of_ble_eq_true rfl⟩) hK hE hW hS hs_ix0 (ci := cHo) (r := (RX1, TX1, 11)) rfl rfl rfl rfl hl.1 (Nat.le_of_ble_eq_true rfl) dX4_show_94 ⟨Nat.zero_le _, Nat.zero_le _⟩ rfl (fun r_ τ_ H locs hp hW hS => ?_)
          obtain ⟨rfl, rfl⟩ := hp
          refine lv_iconst (v := (-1)) hx hb dX4_show_97 (by decide) ?_
          refine lv_icmp_ne (tgt := 105) hx hb dX4_show_98 (by decide) (fun c_98 => ?_) (fun c_98 => ?_)
          · exact absurd hno c_98
          · refine lv_iconst (v := 1) hx hb dX4_show_101 (by decide) ?_
            refine lv_goto (tgt := 106) hx hb dX4_show_102 (by decide) ?_
            refine hs_runv (As := [.int 1]) ⟨hx, hb, hml, hown, hts⟩ (kX4_checkState l D d L σ A 1 (by decide +kernel)) (va_cwS 1 hts gX4_show_X4_checkState rfl rfl rfl (by decide +kernel) ⟨Nat.le_of_ble_eq_true rfl, Nat.le_of_ble_eq_true rfl⟩) hK hE hW hS rfl hl.1 (Nat.le_of_ble_eq_true rfl) dX4_show_106 ⟨Nat.zero_le _, Nat.zero_le _⟩ rfl (fun τ_ H locs hp hW hS => ?_)
            obtain rfl := hp
            refine lv_aload_n hx hb dX4_show_109 rfl (lv_at hl 1 rfl) ?_
            refine lv_iload_n hx hb dX4_show_110 rfl (lv_at hl 4 rfl) ?_
            refine hs_put (ci := cFi) (C := RX0) (T := TX0) (N := 11) (ty := .int) hx hb hts (by decide +kernel) tyX0 tyX0_ok nmX0 hown hK hW hS 9 f (hs_ix9 (show f < 8 by omega)) rfl rfl 7 (by decide) (hts (.fieldLink RX4 110 "Waxrow$Figure" "place" "I") (by decide +kernel)) (fun _ h9 => h9) rfl (by decide +kernel) rfl rfl (Nat.le_of_ble_eq_true rfl) (hs_sg σ 9 f 7 (nI r)) (by simp [hs_ct, hs_sg]) (hs_off _ _ _ _ _) dX4_show_111 (fun H locs hW hS => ?_)
            have hd_ : hs_hd (hs_sg σ 9 f 7 (nI r)) := fun i hi => by simpa [hs_sg] using hok.hd i hi
            refine lv_aload_n hx hb dX4_show_114 rfl (lv_at hl 1 rfl) ?_
            refine hs_calli (As := []) ⟨hx, hb, hml, hown, hts⟩ (kX0_draw l D d L (hs_sg σ 9 f 7 (nI r)) A f (show f < 8 by omega) hd_) (cwV 0 hts gX4_show_X0_draw rfl rfl rfl (by decide +kernel) ⟨Nat.le_of_ble_eq_true rfl, Nat.le_of_ble_eq_true rfl⟩) hK hE hW hS (hs_ix9 (show f < 8 by omega)) (ci := cFi) (r := (RX0, TX0, 11)) rfl rfl rfl rfl hl.1 (Nat.le_of_ble_eq_true rfl) dX4_show_115 ⟨Nat.zero_le _, Nat.zero_le _⟩ rfl (fun r_ τ_ H locs hp hW hS => ?_)
            obtain ⟨rfl, rfl⟩ := hp
            exact W.iret (v := sp_draw (hs_sg σ 9 f 7 (nI r)) f) hx hb hr (fun t ht hW9 => ⟨⟨(sp_draw (hs_sg σ 9 f 7 (nI r)) f), (hs_sg σ 9 f 7 (nI r)), rfl, ⟨rfl, rfl⟩, ⟨by rw [ht]; exact hW, va_K.moved hW9.alike hK⟩⟩, hS.F ht⟩) hS.2.2 dX4_show_118
set_option maxHeartbeats 4000000 in
set_option maxRecDepth 100000 in
/-- bestNext: the loop at 9 -/
theorem lkX4_bestNext (l : Launch) (D : va_G) (d : hs_Dm) (L : hs_Lo) (σ : hs_St) (A : Nat → Prop) (w : Nat) (L2 : hs_Lo) (hwA : ¬ A w) {p : Program} {e : Env} {s : State} {m : MethodId} {args : Array Value} {below : List Frame} {meth : Method} {c : Code} (P F R : Nat) (hok : hs_ok P F R σ)   (hx : p.tables.exec = Jvm.exec) (hb : c.code = cX4_bestNext) (hr : meth.sig.returnType = (some .int)) (hts : ∀ w ∈ wsX4_bestNext, w.before args s = true) (hown : s.vm.findClass RX4 = some m.cls) (hlocks : meth.locks = false) (hml : c.maxLocals = 8) (hK : va_K D vwCl (hs_ty d) s) (hE : hs_E d.2.2.2.2 A s) (hX : hx_E d.2.2.2.2 A s) (hV : va_at D vwCl (w, .inr (cWx, [.ref (L 0 0), .ref (L2 0 0)])) s.heap)  : ∀ (k n : Nat), n + k = P → ∀ (H : Heap) (locs : List Loc), hs_W D d L σ A H → va_S A s.heap H locs → ∀ ls : Array Slot, lv_has ls 8 [(0, .ref w), (1, .int ((sp_best σ F n).1)), (2, .int ((sp_best σ F n).2.1)), (3, .int ((sp_best σ F n).2.2)), (4, .int (nI n))] → W p l e ({ frames := 3, cells := 0, slots := 0, locals := 60 } : Room) s m args below meth c H locs 0 0 (MQ below (va_Qi (fun r τ => (sp_best σ F P).1 = r ∧ σ = τ) (fun τ t => hs_B D d L τ A t) A) args s 0 0 A) (F0 m 9 ls []) := by
  intro k
  induction k with
  | zero =>
    intro n hn H locs hW hS ls hl
    have h10 := hok.1
    have h8 := hok.2.1
    have h5 := hok.2.2.1
    have hd_ := hok.hd
    have hnN : n = P := by omega
    refine lv_iload hx hb dX4_bestNext_9 (lv_at hl 4 rfl) ?_
    refine lv_aload_n hx hb dX4_bestNext_11 rfl (lv_at hl 0 rfl) ?_
    refine va_get (D := D) (ci := cWx) (C := RX4) (T := TX4) (N := 2) (ws := [(w, .inr (cWx, [.ref (L 0 0), .ref (L2 0 0)]))]) (v := .ref (L 0 0)) hx hb hts (by decide +kernel) hown hK (wx_one hV hS hwA) 0 rfl rfl 0 (by decide) (hts (.fieldLink RX4 10 "Waxrow" "house" "LWaxrow$House;") (by decide +kernel)) (fun _ h9 => h9) rfl dX4_bestNext_12 ?_
    refine va_get (D := D) (ci := cHo) (C := RX1) (T := TX1) (N := 11) (ws := [(L 0 0, hs_ct d L σ 0 0)]) (v := .int (σ 0 0 3)) hx hb hts (by decide +kernel) hown hK (hW.one hs_ix0) 0 rfl rfl 3 (by decide) (hts (.fieldLink RX4 23 "Waxrow$House" "personCount" "I") (by decide +kernel)) (fun _ h9 => h9) rfl dX4_bestNext_15 ?_
    refine lv_icmp_ge (tgt := 110) hx hb dX4_bestNext_18 (by decide) (fun c_18 => ?_) (fun c_18 => ?_)
    · refine lv_iload_n hx hb dX4_bestNext_110 rfl (lv_at hl 1 rfl) ?_
      exact W.iret (v := (sp_best σ F n).1) hx hb hr (fun t ht hW9 => ⟨⟨((sp_best σ F n).1), σ, rfl, ⟨by rw [hnN], rfl⟩, ⟨by rw [ht]; exact hW, va_K.moved hW9.alike hK⟩⟩, hS.F ht⟩) hS.2.2 dX4_bestNext_111
    · exact absurd (by rw [hok.hP, hnN]; exact nI_le (Nat.le_refl _) (by omega)) c_18
  | succ k ih =>
    intro n hn H locs hW hS ls hl
    have h10 := hok.1
    have h8 := hok.2.1
    have h5 := hok.2.2.1
    have hd_ := hok.hd
    have hnN : n < P := by omega
    refine lv_iload hx hb dX4_bestNext_9 (lv_at hl 4 rfl) ?_
    refine lv_aload_n hx hb dX4_bestNext_11 rfl (lv_at hl 0 rfl) ?_
    refine va_get (D := D) (ci := cWx) (C := RX4) (T := TX4) (N := 2) (ws := [(w, .inr (cWx, [.ref (L 0 0), .ref (L2 0 0)]))]) (v := .ref (L 0 0)) hx hb hts (by decide +kernel) hown hK (wx_one hV hS hwA) 0 rfl rfl 0 (by decide) (hts (.fieldLink RX4 10 "Waxrow" "house" "LWaxrow$House;") (by decide +kernel)) (fun _ h9 => h9) rfl dX4_bestNext_12 ?_
    refine va_get (D := D) (ci := cHo) (C := RX1) (T := TX1) (N := 11) (ws := [(L 0 0, hs_ct d L σ 0 0)]) (v := .int (σ 0 0 3)) hx hb hts (by decide +kernel) hown hK (hW.one hs_ix0) 0 rfl rfl 3 (by decide) (hts (.fieldLink RX4 23 "Waxrow$House" "personCount" "I") (by decide +kernel)) (fun _ h9 => h9) rfl dX4_bestNext_15 ?_
    refine lv_icmp_ge (tgt := 110) hx hb dX4_bestNext_18 (by decide) (fun c_18 => ?_) (fun c_18 => ?_)
    · exact absurd (by rw [hok.hP] at c_18; exact c_18) (nI_ge hnN (by omega))
    · refine lv_aload_n hx hb dX4_bestNext_21 rfl (lv_at hl 0 rfl) ?_
      refine va_get (D := D) (ci := cWx) (C := RX4) (T := TX4) (N := 2) (ws := [(w, .inr (cWx, [.ref (L 0 0), .ref (L2 0 0)]))]) (v := .ref (L 0 0)) hx hb hts (by decide +kernel) hown hK (wx_one hV hS hwA) 0 rfl rfl 0 (by decide) (hts (.fieldLink RX4 10 "Waxrow" "house" "LWaxrow$House;") (by decide +kernel)) (fun _ h9 => h9) rfl dX4_bestNext_22 ?_
      refine lv_iload hx hb dX4_bestNext_25 (lv_at hl 4 rfl) ?_
      refine hs_callr (As := [.int (nI n)]) ⟨hx, hb, hml, hown, hts⟩ (kX1_personAt l D d L σ A n P hok.hP hnN hok.1) (cwV 1 hts gX4_bestNext_X1_personAt rfl rfl rfl (by decide +kernel) ⟨Nat.le_of_ble_eq_true rfl, Nat.le_of_ble_eq_true rfl⟩) hK hE hW hS hs_ix0 (ci := cHo) (r := (RX1, TX1, 11)) rfl rfl rfl rfl hl.1 (Nat.le_of_ble_eq_true rfl) dX4_bestNext_27 ⟨Nat.zero_le _, Nat.zero_le _⟩ rfl (fun H locs hW hS => ?_)
      refine lv_astore (lv' := [(5, .ref (L 4 n)), (0, .ref w), (1, .int ((sp_best σ F n).1)), (2, .int ((sp_best σ F n).2.1)), (3, .int ((sp_best σ F n).2.2)), (4, .int (nI n))]) hx hb dX4_bestNext_30 hl (by decide) rfl (fun ls hl => ?_)
      refine lv_aload hx hb dX4_bestNext_32 (lv_at hl 0 rfl) ?_
      refine va_get (D := D) (ci := cPe) (C := RX2) (T := TX2) (N := 8) (ws := [(L 4 n, hs_ct d L σ 4 n)]) (v := .int (σ 4 n 5)) hx hb hts (by decide +kernel) hown hK (hW.one (hs_ix4 (show n < 10 by omega))) 0 rfl rfl 5 (by decide) (hts (.fieldLink RX4 56 "Waxrow$Person" "consents" "Z") (by decide +kernel)) (fun _ h9 => h9) rfl dX4_bestNext_34 ?_
      refine lv_if_eq (tgt := 104) hx hb dX4_bestNext_37 (by decide) (fun c_37 => ?_) (fun c_37 => ?_)
      · refine lv_iinc (v := nI (n + 1)) (lv' := [(4, .int (nI (n + 1))), (5, .ref (L 4 n)), (0, .ref w), (1, .int ((sp_best σ F n).1)), (2, .int ((sp_best σ F n).2.1)), (3, .int ((sp_best σ F n).2.2))]) hx hb dX4_bestNext_104 hl (k := 5) rfl (nI_succ _).symm (by decide) rfl (fun ls hl => ?_)
        refine lv_goto (tgt := 9) hx hb dX4_bestNext_107 (by decide) ?_
        have e_q : sp_best σ F (n + 1) = ((sp_best σ F n).1, (sp_best σ F n).2.1, (sp_best σ F n).2.2) := by first | (simp only [sp_best, sp_pick, c_37, eq_self, ↓reduceIte]; done) | (simp [sp_best, sp_pick, c_37]; done)
        have e_1 : (sp_best σ F n).1 = (sp_best σ F (n + 1)).1 := by rw [e_q]
        have e_2 : (sp_best σ F n).2.1 = (sp_best σ F (n + 1)).2.1 := by rw [e_q]
        have e_3 : (sp_best σ F n).2.2 = (sp_best σ F (n + 1)).2.2 := by rw [e_q]
        exact ih (n + 1) (by omega) _ _ hW hS ls (by rw [← e_1, ← e_2, ← e_3]; exact lv_sub hl [2, 3, 4, 5, 0] rfl)
      · refine lv_aload_n hx hb dX4_bestNext_40 rfl (lv_at hl 1 rfl) ?_
        refine va_get (D := D) (ci := cWx) (C := RX4) (T := TX4) (N := 2) (ws := [(w, .inr (cWx, [.ref (L 0 0), .ref (L2 0 0)]))]) (v := .ref (L 0 0)) hx hb hts (by decide +kernel) hown hK (wx_one hV hS hwA) 0 rfl rfl 0 (by decide) (hts (.fieldLink RX4 10 "Waxrow" "house" "LWaxrow$House;") (by decide +kernel)) (fun _ h9 => h9) rfl dX4_bestNext_41 ?_
        refine lv_aload hx hb dX4_bestNext_44 (lv_at hl 0 rfl) ?_
        refine hs_calli (As := [.ref (L 4 n)]) ⟨hx, hb, hml, hown, hts⟩ (kX1_hasFigureOf l D d L σ A n (show n < 10 by omega) F hok.hF hok.2.1 hok.hd) (cwV 1 hts gX4_bestNext_X1_hasFigureOf rfl rfl rfl (by decide +kernel) ⟨Nat.le_of_ble_eq_true rfl, Nat.le_of_ble_eq_true rfl⟩) hK hE hW hS hs_ix0 (ci := cHo) (r := (RX1, TX1, 11)) rfl rfl rfl rfl hl.1 (Nat.le_of_ble_eq_true rfl) dX4_bestNext_46 ⟨Nat.zero_le _, Nat.zero_le _⟩ rfl (fun r_ τ_ H locs hp hW hS => ?_)
        obtain ⟨rfl, rfl⟩ := hp
        refine lv_if_eq (tgt := 55) hx hb dX4_bestNext_49 (by decide) (fun c_49 => ?_) (fun c_49 => ?_)
        · refine lv_aload hx hb dX4_bestNext_55 (lv_at hl 0 rfl) ?_
          refine lv_iconst (v := 0) hx hb dX4_bestNext_57 (by decide) ?_
          refine lv_bipush (v := 6) hx hb dX4_bestNext_58 (by decide) ?_
          refine hs_calli (As := [.int 0, .int 6]) ⟨hx, hb, hml, hown, hts⟩ (kX2_fameBehind l D d L σ A n (show n < 10 by omega) 0 (by decide) 6 (by decide)) (cwV 2 hts gX4_bestNext_X2_fameBehind rfl rfl rfl (by decide +kernel) ⟨Nat.le_of_ble_eq_true rfl, Nat.le_of_ble_eq_true rfl⟩) hK hE hW hS (hs_ix4 (show n < 10 by omega)) (ci := cPe) (r := (RX2, TX2, 8)) rfl rfl rfl rfl hl.1 (Nat.le_of_ble_eq_true rfl) dX4_bestNext_60 ⟨Nat.zero_le _, Nat.zero_le _⟩ rfl (fun r_ τ_ H locs hp hW hS => ?_)
          obtain ⟨rfl, rfl⟩ := hp
          refine lv_istore (lv' := [(6, .int (sp_fame σ n 0 6)), (5, .ref (L 4 n)), (0, .ref w), (1, .int ((sp_best σ F n).1)), (2, .int ((sp_best σ F n).2.1)), (3, .int ((sp_best σ F n).2.2)), (4, .int (nI n))]) hx hb dX4_bestNext_63 hl (by decide) rfl (fun ls hl => ?_)
          refine lv_aload hx hb dX4_bestNext_65 (lv_at hl 1 rfl) ?_
          refine hs_calli (As := []) ⟨hx, hb, hml, hown, hts⟩ (kX2_doubt l D d L σ A n (show n < 10 by omega)) (cwV 0 hts gX4_bestNext_X2_doubt rfl rfl rfl (by decide +kernel) ⟨Nat.le_of_ble_eq_true rfl, Nat.le_of_ble_eq_true rfl⟩) hK hE hW hS (hs_ix4 (show n < 10 by omega)) (ci := cPe) (r := (RX2, TX2, 8)) rfl rfl rfl rfl hl.1 (Nat.le_of_ble_eq_true rfl) dX4_bestNext_67 ⟨Nat.zero_le _, Nat.zero_le _⟩ rfl (fun r_ τ_ H locs hp hW hS => ?_)
          obtain ⟨rfl, rfl⟩ := hp
          refine lv_istore (lv' := [(7, .int (sp_doubt σ n)), (6, .int (sp_fame σ n 0 6)), (5, .ref (L 4 n)), (0, .ref w), (1, .int ((sp_best σ F n).1)), (2, .int ((sp_best σ F n).2.1)), (3, .int ((sp_best σ F n).2.2)), (4, .int (nI n))]) hx hb dX4_bestNext_70 hl (by decide) rfl (fun ls hl => ?_)
          refine lv_iload_n hx hb dX4_bestNext_72 rfl (lv_at hl 4 rfl) ?_
          refine lv_iconst (v := (-1)) hx hb dX4_bestNext_73 (by decide) ?_
          refine lv_icmp_eq (tgt := 95) hx hb dX4_bestNext_74 (by decide) (fun c_74 => ?_) (fun c_74 => ?_)
          · refine lv_iload hx hb dX4_bestNext_95 (lv_at hl 7 rfl) ?_
            refine lv_istore_n (lv' := [(1, .int (nI n)), (7, .int (sp_doubt σ n)), (6, .int (sp_fame σ n 0 6)), (5, .ref (L 4 n)), (0, .ref w), (2, .int ((sp_best σ F n).2.1)), (3, .int ((sp_best σ F n).2.2)), (4, .int (nI n))]) hx hb dX4_bestNext_97 rfl hl (by decide) rfl (fun ls hl => ?_)
            refine lv_iload hx hb dX4_bestNext_98 (lv_at hl 2 rfl) ?_
            refine lv_istore_n (lv' := [(2, .int (sp_fame σ n 0 6)), (1, .int (nI n)), (7, .int (sp_doubt σ n)), (6, .int (sp_fame σ n 0 6)), (5, .ref (L 4 n)), (0, .ref w), (3, .int ((sp_best σ F n).2.2)), (4, .int (nI n))]) hx hb dX4_bestNext_100 rfl hl (by decide) rfl (fun ls hl => ?_)
            refine lv_iload hx hb dX4_bestNext_101 (lv_at hl 2 rfl) ?_
            refine lv_istore_n (lv' := [(3, .int (sp_doubt σ n)), (2, .int (sp_fame σ n 0 6)), (1, .int (nI n)), (7, .int (sp_doubt σ n)), (6, .int (sp_fame σ n 0 6)), (5, .ref (L 4 n)), (0, .ref w), (4, .int (nI n))]) hx hb dX4_bestNext_103 rfl hl (by decide) rfl (fun ls hl => ?_)
            refine lv_iinc (v := nI (n + 1)) (lv' := [(4, .int (nI (n + 1))), (3, .int (sp_doubt σ n)), (2, .int (sp_fame σ n 0 6)), (1, .int (nI n)), (7, .int (sp_doubt σ n)), (6, .int (sp_fame σ n 0 6)), (5, .ref (L 4 n)), (0, .ref w)]) hx hb dX4_bestNext_104 hl (k := 7) rfl (nI_succ _).symm (by decide) rfl (fun ls hl => ?_)
            refine lv_goto (tgt := 9) hx hb dX4_bestNext_107 (by decide) ?_
            have e_q : sp_best σ F (n + 1) = (nI n, sp_fame σ n 0 6, sp_doubt σ n) := by first | (simp only [sp_best, sp_pick, c_37, c_49, c_74, eq_self, ↓reduceIte]; done) | (simp [sp_best, sp_pick, c_37, c_49, c_74]; done)
            have e_1 : nI n = (sp_best σ F (n + 1)).1 := by rw [e_q]
            have e_2 : sp_fame σ n 0 6 = (sp_best σ F (n + 1)).2.1 := by rw [e_q]
            have e_3 : sp_doubt σ n = (sp_best σ F (n + 1)).2.2 := by rw [e_q]
            exact ih (n + 1) (by omega) _ _ hW hS ls (by rw [← e_1, ← e_2, ← e_3]; exact lv_sub hl [7, 3, 2, 1, 0] rfl)
          · refine lv_iload hx hb dX4_bestNext_77 (lv_at hl 1 rfl) ?_
            refine lv_iload_n hx hb dX4_bestNext_79 rfl (lv_at hl 5 rfl) ?_
            refine lv_icmp_gt (tgt := 95) hx hb dX4_bestNext_80 (by decide) (fun c_80 => ?_) (fun c_80 => ?_)
            · refine lv_iload hx hb dX4_bestNext_95 (lv_at hl 7 rfl) ?_
              refine lv_istore_n (lv' := [(1, .int (nI n)), (7, .int (sp_doubt σ n)), (6, .int (sp_fame σ n 0 6)), (5, .ref (L 4 n)), (0, .ref w), (2, .int ((sp_best σ F n).2.1)), (3, .int ((sp_best σ F n).2.2)), (4, .int (nI n))]) hx hb dX4_bestNext_97 rfl hl (by decide) rfl (fun ls hl => ?_)
              refine lv_iload hx hb dX4_bestNext_98 (lv_at hl 2 rfl) ?_
              refine lv_istore_n (lv' := [(2, .int (sp_fame σ n 0 6)), (1, .int (nI n)), (7, .int (sp_doubt σ n)), (6, .int (sp_fame σ n 0 6)), (5, .ref (L 4 n)), (0, .ref w), (3, .int ((sp_best σ F n).2.2)), (4, .int (nI n))]) hx hb dX4_bestNext_100 rfl hl (by decide) rfl (fun ls hl => ?_)
              refine lv_iload hx hb dX4_bestNext_101 (lv_at hl 2 rfl) ?_
              refine lv_istore_n (lv' := [(3, .int (sp_doubt σ n)), (2, .int (sp_fame σ n 0 6)), (1, .int (nI n)), (7, .int (sp_doubt σ n)), (6, .int (sp_fame σ n 0 6)), (5, .ref (L 4 n)), (0, .ref w), (4, .int (nI n))]) hx hb dX4_bestNext_103 rfl hl (by decide) rfl (fun ls hl => ?_)
              refine lv_iinc (v := nI (n + 1)) (lv' := [(4, .int (nI (n + 1))), (3, .int (sp_doubt σ n)), (2, .int (sp_fame σ n 0 6)), (1, .int (nI n)), (7, .int (sp_doubt σ n)), (6, .int (sp_fame σ n 0 6)), (5, .ref (L 4 n)), (0, .ref w)]) hx hb dX4_bestNext_104 hl (k := 7) rfl (nI_succ _).symm (by decide) rfl (fun ls hl => ?_)
              refine lv_goto (tgt := 9) hx hb dX4_bestNext_107 (by decide) ?_
              have e_q : sp_best σ F (n + 1) = (nI n, sp_fame σ n 0 6, sp_doubt σ n) := by first | (simp only [sp_best, sp_pick, c_37, c_49, c_74, c_80, eq_self, ↓reduceIte]; done) | (simp [sp_best, sp_pick, c_37, c_49, c_74, c_80]; done)
              have e_1 : nI n = (sp_best σ F (n + 1)).1 := by rw [e_q]
              have e_2 : sp_fame σ n 0 6 = (sp_best σ F (n + 1)).2.1 := by rw [e_q]
              have e_3 : sp_doubt σ n = (sp_best σ F (n + 1)).2.2 := by rw [e_q]
              exact ih (n + 1) (by omega) _ _ hW hS ls (by rw [← e_1, ← e_2, ← e_3]; exact lv_sub hl [7, 3, 2, 1, 0] rfl)
            · refine lv_iload hx hb dX4_bestNext_83 (lv_at hl 1 rfl) ?_
              refine lv_iload_n hx hb dX4_bestNext_85 rfl (lv_at hl 5 rfl) ?_
              refine lv_icmp_ne (tgt := 104) hx hb dX4_bestNext_86 (by decide) (fun c_86 => ?_) (fun c_86 => ?_)
              · refine lv_iinc (v := nI (n + 1)) (lv' := [(4, .int (nI (n + 1))), (7, .int (sp_doubt σ n)), (6, .int (sp_fame σ n 0 6)), (5, .ref (L 4 n)), (0, .ref w), (1, .int ((sp_best σ F n).1)), (2, .int ((sp_best σ F n).2.1)), (3, .int ((sp_best σ F n).2.2))]) hx hb dX4_bestNext_104 hl (k := 7) rfl (nI_succ _).symm (by decide) rfl (fun ls hl => ?_)
                refine lv_goto (tgt := 9) hx hb dX4_bestNext_107 (by decide) ?_
                have e_q : sp_best σ F (n + 1) = ((sp_best σ F n).1, (sp_best σ F n).2.1, (sp_best σ F n).2.2) := by first | (simp only [sp_best, sp_pick, c_37, c_49, c_74, c_80, c_86, eq_self, ↓reduceIte]; done) | (simp [sp_best, sp_pick, c_37, c_49, c_74, c_80, c_86]; done)
                have e_1 : (sp_best σ F n).1 = (sp_best σ F (n + 1)).1 := by rw [e_q]
                have e_2 : (sp_best σ F n).2.1 = (sp_best σ F (n + 1)).2.1 := by rw [e_q]
                have e_3 : (sp_best σ F n).2.2 = (sp_best σ F (n + 1)).2.2 := by rw [e_q]
                exact ih (n + 1) (by omega) _ _ hW hS ls (by rw [← e_1, ← e_2, ← e_3]; exact lv_sub hl [4, 5, 6, 7, 0] rfl)
              · refine lv_iload hx hb dX4_bestNext_89 (lv_at hl 0 rfl) ?_
                refine lv_iload_n hx hb dX4_bestNext_91 rfl (lv_at hl 6 rfl) ?_
                refine lv_icmp_ge (tgt := 104) hx hb dX4_bestNext_92 (by decide) (fun c_92 => ?_) (fun c_92 => ?_)
                · refine lv_iinc (v := nI (n + 1)) (lv' := [(4, .int (nI (n + 1))), (7, .int (sp_doubt σ n)), (6, .int (sp_fame σ n 0 6)), (5, .ref (L 4 n)), (0, .ref w), (1, .int ((sp_best σ F n).1)), (2, .int ((sp_best σ F n).2.1)), (3, .int ((sp_best σ F n).2.2))]) hx hb dX4_bestNext_104 hl (k := 7) rfl (nI_succ _).symm (by decide) rfl (fun ls hl => ?_)
                  refine lv_goto (tgt := 9) hx hb dX4_bestNext_107 (by decide) ?_
                  have e_q : sp_best σ F (n + 1) = ((sp_best σ F n).1, (sp_best σ F n).2.1, (sp_best σ F n).2.2) := by first | (simp only [sp_best, sp_pick, c_37, c_49, c_74, c_80, c_86, c_92, eq_self, ↓reduceIte]; done) | (simp [sp_best, sp_pick, c_37, c_49, c_74, c_80, c_86, c_92]; done)
                  have e_1 : (sp_best σ F n).1 = (sp_best σ F (n + 1)).1 := by rw [e_q]
                  have e_2 : (sp_best σ F n).2.1 = (sp_best σ F (n + 1)).2.1 := by rw [e_q]
                  have e_3 : (sp_best σ F n).2.2 = (sp_best σ F (n + 1)).2.2 := by rw [e_q]
                  exact ih (n + 1) (by omega) _ _ hW hS ls (by rw [← e_1, ← e_2, ← e_3]; exact lv_sub hl [4, 5, 6, 7, 0] rfl)
                · refine lv_iload hx hb dX4_bestNext_95 (lv_at hl 7 rfl) ?_
                  refine lv_istore_n (lv' := [(1, .int (nI n)), (7, .int (sp_doubt σ n)), (6, .int (sp_fame σ n 0 6)), (5, .ref (L 4 n)), (0, .ref w), (2, .int ((sp_best σ F n).2.1)), (3, .int ((sp_best σ F n).2.2)), (4, .int (nI n))]) hx hb dX4_bestNext_97 rfl hl (by decide) rfl (fun ls hl => ?_)
                  refine lv_iload hx hb dX4_bestNext_98 (lv_at hl 2 rfl) ?_
                  refine lv_istore_n (lv' := [(2, .int (sp_fame σ n 0 6)), (1, .int (nI n)), (7, .int (sp_doubt σ n)), (6, .int (sp_fame σ n 0 6)), (5, .ref (L 4 n)), (0, .ref w), (3, .int ((sp_best σ F n).2.2)), (4, .int (nI n))]) hx hb dX4_bestNext_100 rfl hl (by decide) rfl (fun ls hl => ?_)
                  refine lv_iload hx hb dX4_bestNext_101 (lv_at hl 2 rfl) ?_
                  refine lv_istore_n (lv' := [(3, .int (sp_doubt σ n)), (2, .int (sp_fame σ n 0 6)), (1, .int (nI n)), (7, .int (sp_doubt σ n)), (6, .int (sp_fame σ n 0 6)), (5, .ref (L 4 n)), (0, .ref w), (4, .int (nI n))]) hx hb dX4_bestNext_103 rfl hl (by decide) rfl (fun ls hl => ?_)
                  refine lv_iinc (v := nI (n + 1)) (lv' := [(4, .int (nI (n + 1))), (3, .int (sp_doubt σ n)), (2, .int (sp_fame σ n 0 6)), (1, .int (nI n)), (7, .int (sp_doubt σ n)), (6, .int (sp_fame σ n 0 6)), (5, .ref (L 4 n)), (0, .ref w)]) hx hb dX4_bestNext_104 hl (k := 7) rfl (nI_succ _).symm (by decide) rfl (fun ls hl => ?_)
                  refine lv_goto (tgt := 9) hx hb dX4_bestNext_107 (by decide) ?_
                  have e_q : sp_best σ F (n + 1) = (nI n, sp_fame σ n 0 6, sp_doubt σ n) := by first | (simp only [sp_best, sp_pick, c_37, c_49, c_74, c_80, c_86, c_92, eq_self, ↓reduceIte]; done) | (simp [sp_best, sp_pick, c_37, c_49, c_74, c_80, c_86, c_92]; done)
                  have e_1 : nI n = (sp_best σ F (n + 1)).1 := by rw [e_q]
                  have e_2 : sp_fame σ n 0 6 = (sp_best σ F (n + 1)).2.1 := by rw [e_q]
                  have e_3 : sp_doubt σ n = (sp_best σ F (n + 1)).2.2 := by rw [e_q]
                  exact ih (n + 1) (by omega) _ _ hW hS ls (by rw [← e_1, ← e_2, ← e_3]; exact lv_sub hl [7, 3, 2, 1, 0] rfl)
        · refine lv_goto (tgt := 104) hx hb dX4_bestNext_52 (by decide) ?_
          refine lv_iinc (v := nI (n + 1)) (lv' := [(4, .int (nI (n + 1))), (5, .ref (L 4 n)), (0, .ref w), (1, .int ((sp_best σ F n).1)), (2, .int ((sp_best σ F n).2.1)), (3, .int ((sp_best σ F n).2.2))]) hx hb dX4_bestNext_104 hl (k := 5) rfl (nI_succ _).symm (by decide) rfl (fun ls hl => ?_)
          refine lv_goto (tgt := 9) hx hb dX4_bestNext_107 (by decide) ?_
          have e_q : sp_best σ F (n + 1) = ((sp_best σ F n).1, (sp_best σ F n).2.1, (sp_best σ F n).2.2) := by first | (simp only [sp_best, sp_pick, c_37, c_49, eq_self, ↓reduceIte]; done) | (simp [sp_best, sp_pick, c_37, c_49]; done)
          have e_1 : (sp_best σ F n).1 = (sp_best σ F (n + 1)).1 := by rw [e_q]
          have e_2 : (sp_best σ F n).2.1 = (sp_best σ F (n + 1)).2.1 := by rw [e_q]
          have e_3 : (sp_best σ F n).2.2 = (sp_best σ F (n + 1)).2.2 := by rw [e_q]
          exact ih (n + 1) (by omega) _ _ hW hS ls (by rw [← e_1, ← e_2, ← e_3]; exact lv_sub hl [2, 3, 4, 5, 0] rfl)
set_option maxHeartbeats 4000000 in
set_option maxRecDepth 100000 in
/-- bestNext -/
theorem kX4_bestNext (l : Launch) (D : va_G) (d : hs_Dm) (L : hs_Lo) (σ : hs_St) (A : Nat → Prop) (w : Nat) (L2 : hs_Lo) (hwA : ¬ A w) (P F R : Nat) (hok : hs_ok P F R σ)  : wx_Mi l yX4_bestNext wsX4_bestNext ({ frames := 3, cells := 0, slots := 0, locals := 60 }) D d w L L2 σ A [.ref w] (fun r τ => (sp_best σ F P).1 = r ∧ σ = τ) := by
  refine Met.ofW (cc := cX4_bestNext) (maxL := 8) (ret := (some .int)) (by decide) rfl ?_
  intro p e s m args below meth c s₁ B hml hv
  obtain ⟨rfl, ⟨⟨hW, hK⟩, hX⟩, hV⟩ := hv
  have hE := hX.1
  have hx := B.exec
  have hb := B.bytes
  have hr := B.returns
  have hts := atoms_spec (ws := wsX4_bestNext) B.pre
  have hown : s.vm.findClass RX4 = some m.cls := findClass_of_methodNamed B.named
  have hlocks := B.notSynchronized
  have hS : va_S A s.heap s.heap [] := va_S.rf
  have hW : hs_W D d L σ A s.heap := hW
  have hl := lv_entry ([.ref w]) (n := 8) (Nat.le_of_ble_eq_true rfl)
  rw [lg_entry_eq]
  generalize (lg_sl ([.ref w]) ++ List.replicate (8 - (lg_sl ([.ref w])).length) Slot.unset).toArray = ls at hl ⊢
  have hl : lv_has ls 8 [(0, .ref w)] := hl
  have h10 := hok.1
  have h8 := hok.2.1
  have h5 := hok.2.2.1
  have hd_ := hok.hd
  refine lv_iconst (v := (-1)) hx hb dX4_bestNext_0 (by decide) ?_
  refine lv_istore_n (lv' := [(1, .int (-1)), (0, .ref w)]) hx hb dX4_bestNext_1 rfl hl (by decide) rfl (fun ls hl => ?_)
  refine lv_iconst (v := 0) hx hb dX4_bestNext_2 (by decide) ?_
  refine lv_istore_n (lv' := [(2, .int 0), (1, .int (-1)), (0, .ref w)]) hx hb dX4_bestNext_3 rfl hl (by decide) rfl (fun ls hl => ?_)
  refine lv_iconst (v := 0) hx hb dX4_bestNext_4 (by decide) ?_
  refine lv_istore_n (lv' := [(3, .int 0), (2, .int 0), (1, .int (-1)), (0, .ref w)]) hx hb dX4_bestNext_5 rfl hl (by decide) rfl (fun ls hl => ?_)
  refine lv_iconst (v := 0) hx hb dX4_bestNext_6 (by decide) ?_
  refine lv_istore (lv' := [(4, .int 0), (3, .int 0), (2, .int 0), (1, .int (-1)), (0, .ref w)]) hx hb dX4_bestNext_7 hl (by decide) rfl (fun ls hl => ?_)
  exact lkX4_bestNext l D d L σ A w L2 hwA P F R hok hx hb hr hts hown hlocks hml hK hE hX hV P 0 (by omega) _ _ hW hS ls (lv_sub hl [4, 3, 2, 1, 0] rfl)
