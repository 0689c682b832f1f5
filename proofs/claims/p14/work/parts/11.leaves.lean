/-! THE FIGURE AND THE PERSON: what each reading answers -/
def sp_isDone (σ : hs_St) (f : Nat) : Int32 := if σ 9 f 2 = 6 then (if σ 9 f 7 = 7 then 0 else 1) else 0
def sp_isReady (σ : hs_St) (f : Nat) : Int32 := if σ 9 f 2 = 6 then (if σ 9 f 7 = 5 then 1 else 0) else 0
def sp_isShown (σ : hs_St) (f : Nat) : Int32 := if σ 9 f 7 < 0 then 0 else if 5 ≤ σ 9 f 7 then 0 else 1
def sp_height (σ : hs_St) (q : Nat) : Int32 := σ 7 q 5 + σ 8 q 5
def sp_held (x : Int32) : Int32 := if 0 ≤ x then (if x ≤ 999 then x else 999) else 0
def sp_nearer (x : Int32) : Int32 := if x ≤ 0 then (if 0 ≤ x then 0 else x + 1) else x - 1
def sp_gap (g : Int32) : Int32 := if 0 ≤ g then g else - g
def sp_likeness (σ : hs_St) (f : Nat) : Int32 := if sp_isDone σ f = 0 then 0 else
  let a := 100 - σ 9 f 5 - σ 9 f 6 / 2
  let b := if (σ 9 f 0).toNatClampNeg = (σ 9 f 1).toNatClampNeg then a else a - sp_gap (sp_height σ (σ 9 f 0).toNatClampNeg - sp_height σ (σ 9 f 1).toNatClampNeg) / 4
  if 0 ≤ b then b else 0
def sp_draw (σ : hs_St) (f : Nat) : Int32 := if sp_isShown σ f = 0 then 0 else σ 5 (σ 9 f 0).toNatClampNeg 0 * sp_likeness σ f / 100
def sp_melt (σ : hs_St) (f : Nat) : hs_St := hs_sg (hs_sg σ 9 f 7 7) 9 f 4 0
def hs_hd (σ : hs_St) : Prop := ∀ f, f < 8 → (σ 9 f 0).toNatClampNeg < 10 ∧ (σ 9 f 1).toNatClampNeg < 10
set_option maxHeartbeats 4000000 in
set_option maxRecDepth 100000 in
/-- isDone -/
theorem kX0_isDone (l : Launch) (D : va_G) (d : hs_Dm) (L : hs_Lo) (σ : hs_St) (A : Nat → Prop) (f : Nat) (hf : f < 8) : hs_Mi l yX0_isDone wsX0_isDone ({ frames := 0, cells := 0, slots := 0, locals := 0 }) D d L σ A [.ref (L 9 f)] (fun r τ => sp_isDone σ f = r ∧ σ = τ) := by
  refine Met.ofW (cc := cX0_isDone) (maxL := 1) (ret := (some .boolean)) (by decide) rfl ?_
  intro p e s m args below meth c s₁ B hml hv
  obtain ⟨rfl, ⟨hW, hK⟩, hE⟩ := hv
  have hx := B.exec
  have hb := B.bytes
  have hr := B.returns
  have hts := atoms_spec (ws := wsX0_isDone) B.pre
  have hown : s.vm.findClass RX0 = some m.cls := findClass_of_methodNamed B.named
  have hlocks := B.notSynchronized
  have hS : va_S A s.heap s.heap [] := va_S.rf
  have hW : hs_W D d L σ A s.heap := hW
  have hl := lv_entry ([.ref (L 9 f)]) (n := 1) (Nat.le_of_ble_eq_true rfl)
  rw [lg_entry_eq]
  generalize (lg_sl ([.ref (L 9 f)]) ++ List.replicate (1 - (lg_sl ([.ref (L 9 f)])).length) Slot.unset).toArray = ls at hl ⊢
  have hl : lv_has ls 1 [(0, .ref (L 9 f))] := hl
  refine lv_aload_n hx hb dX0_isDone_0 rfl (lv_at hl 0 rfl) ?_
  refine va_get (D := D) (ci := cFi) (C := RX0) (T := TX0) (N := 11) (ws := [(L 9 f, hs_ct d L σ 9 f)]) (v := .int (σ 9 f 2)) hx hb hts (by decide +kernel) hown hK (hW.one (hs_ix9 hf)) 0 rfl rfl 2 (by decide) (hts (.fieldLink RX0 22 "Waxrow$Figure" "step" "I") (by decide +kernel)) (fun _ h9 => h9) rfl dX0_isDone_1 ?_
  refine lv_bipush (v := 6) hx hb dX0_isDone_4 (by decide) ?_
  refine lv_icmp_ne (tgt := 22) hx hb dX0_isDone_6 (by decide) (fun c_6 => ?_) (fun c_6 => ?_)
  · refine lv_iconst (v := 0) hx hb dX0_isDone_22 (by decide) ?_
    exact W.zret (v := 0) (ty := .boolean) hx hb hr rfl (fun t ht hW9 => ⟨⟨0, σ, rfl, ⟨by first | (simp only [sp_isDone, c_6, eq_self, ↓reduceIte]; done) | (simp [sp_isDone, c_6]; done), rfl⟩, ⟨by rw [ht]; exact hW, va_K.moved hW9.alike hK⟩⟩, hS.F ht⟩) hS.2.2 dX0_isDone_23
  · refine lv_aload_n hx hb dX0_isDone_9 rfl (lv_at hl 0 rfl) ?_
    refine va_get (D := D) (ci := cFi) (C := RX0) (T := TX0) (N := 11) (ws := [(L 9 f, hs_ct d L σ 9 f)]) (v := .int (σ 9 f 7)) hx hb hts (by decide +kernel) hown hK (hW.one (hs_ix9 hf)) 0 rfl rfl 7 (by decide) (hts (.fieldLink RX0 18 "Waxrow$Figure" "place" "I") (by decide +kernel)) (fun _ h9 => h9) rfl dX0_isDone_10 ?_
    refine lv_bipush (v := 7) hx hb dX0_isDone_13 (by decide) ?_
    refine lv_icmp_eq (tgt := 22) hx hb dX0_isDone_15 (by decide) (fun c_15 => ?_) (fun c_15 => ?_)
    · refine lv_iconst (v := 0) hx hb dX0_isDone_22 (by decide) ?_
      exact W.zret (v := 0) (ty := .boolean) hx hb hr rfl (fun t ht hW9 => ⟨⟨0, σ, rfl, ⟨by first | (simp only [sp_isDone, c_6, c_15, eq_self, ↓reduceIte]; done) | (simp [sp_isDone, c_6, c_15]; done), rfl⟩, ⟨by rw [ht]; exact hW, va_K.moved hW9.alike hK⟩⟩, hS.F ht⟩) hS.2.2 dX0_isDone_23
    · refine lv_iconst (v := 1) hx hb dX0_isDone_18 (by decide) ?_
      refine lv_goto (tgt := 23) hx hb dX0_isDone_19 (by decide) ?_
      exact W.zret (v := 1) (ty := .boolean) hx hb hr rfl (fun t ht hW9 => ⟨⟨1, σ, rfl, ⟨by first | (simp only [sp_isDone, c_6, c_15, eq_self, ↓reduceIte]; done) | (simp [sp_isDone, c_6, c_15]; done), rfl⟩, ⟨by rw [ht]; exact hW, va_K.moved hW9.alike hK⟩⟩, hS.F ht⟩) hS.2.2 dX0_isDone_23
set_option maxHeartbeats 4000000 in
set_option maxRecDepth 100000 in
/-- isReadyInStore -/
theorem kX0_isReadyInStore (l : Launch) (D : va_G) (d : hs_Dm) (L : hs_Lo) (σ : hs_St) (A : Nat → Prop) (f : Nat) (hf : f < 8) : hs_Mi l yX0_isReadyInStore wsX0_isReadyInStore ({ frames := 0, cells := 0, slots := 0, locals := 0 }) D d L σ A [.ref (L 9 f)] (fun r τ => sp_isReady σ f = r ∧ σ = τ) := by
  refine Met.ofW (cc := cX0_isReadyInStore) (maxL := 1) (ret := (some .boolean)) (by decide) rfl ?_
  intro p e s m args below meth c s₁ B hml hv
  obtain ⟨rfl, ⟨hW, hK⟩, hE⟩ := hv
  have hx := B.exec
  have hb := B.bytes
  have hr := B.returns
  have hts := atoms_spec (ws := wsX0_isReadyInStore) B.pre
  have hown : s.vm.findClass RX0 = some m.cls := findClass_of_methodNamed B.named
  have hlocks := B.notSynchronized
  have hS : va_S A s.heap s.heap [] := va_S.rf
  have hW : hs_W D d L σ A s.heap := hW
  have hl := lv_entry ([.ref (L 9 f)]) (n := 1) (Nat.le_of_ble_eq_true rfl)
  rw [lg_entry_eq]
  generalize (lg_sl ([.ref (L 9 f)]) ++ List.replicate (1 - (lg_sl ([.ref (L 9 f)])).length) Slot.unset).toArray = ls at hl ⊢
  have hl : lv_has ls 1 [(0, .ref (L 9 f))] := hl
  refine lv_aload_n hx hb dX0_isReadyInStore_0 rfl (lv_at hl 0 rfl) ?_
  refine va_get (D := D) (ci := cFi) (C := RX0) (T := TX0) (N := 11) (ws := [(L 9 f, hs_ct d L σ 9 f)]) (v := .int (σ 9 f 2)) hx hb hts (by decide +kernel) hown hK (hW.one (hs_ix9 hf)) 0 rfl rfl 2 (by decide) (hts (.fieldLink RX0 22 "Waxrow$Figure" "step" "I") (by decide +kernel)) (fun _ h9 => h9) rfl dX0_isReadyInStore_1 ?_
  refine lv_bipush (v := 6) hx hb dX0_isReadyInStore_4 (by decide) ?_
  refine lv_icmp_ne (tgt := 21) hx hb dX0_isReadyInStore_6 (by decide) (fun c_6 => ?_) (fun c_6 => ?_)
  · refine lv_iconst (v := 0) hx hb dX0_isReadyInStore_21 (by decide) ?_
    exact W.zret (v := 0) (ty := .boolean) hx hb hr rfl (fun t ht hW9 => ⟨⟨0, σ, rfl, ⟨by first | (simp only [sp_isReady, c_6, eq_self, ↓reduceIte]; done) | (simp [sp_isReady, c_6]; done), rfl⟩, ⟨by rw [ht]; exact hW, va_K.moved hW9.alike hK⟩⟩, hS.F ht⟩) hS.2.2 dX0_isReadyInStore_22
  · refine lv_aload_n hx hb dX0_isReadyInStore_9 rfl (lv_at hl 0 rfl) ?_
    refine va_get (D := D) (ci := cFi) (C := RX0) (T := TX0) (N := 11) (ws := [(L 9 f, hs_ct d L σ 9 f)]) (v := .int (σ 9 f 7)) hx hb hts (by decide +kernel) hown hK (hW.one (hs_ix9 hf)) 0 rfl rfl 7 (by decide) (hts (.fieldLink RX0 18 "Waxrow$Figure" "place" "I") (by decide +kernel)) (fun _ h9 => h9) rfl dX0_isReadyInStore_10 ?_
    refine lv_iconst (v := 5) hx hb dX0_isReadyInStore_13 (by decide) ?_
    refine lv_icmp_ne (tgt := 21) hx hb dX0_isReadyInStore_14 (by decide) (fun c_14 => ?_) (fun c_14 => ?_)
    · refine lv_iconst (v := 0) hx hb dX0_isReadyInStore_21 (by decide) ?_
      exact W.zret (v := 0) (ty := .boolean) hx hb hr rfl (fun t ht hW9 => ⟨⟨0, σ, rfl, ⟨by first | (simp only [sp_isReady, c_6, c_14, eq_self, ↓reduceIte]; done) | (simp [sp_isReady, c_6, c_14]; done), rfl⟩, ⟨by rw [ht]; exact hW, va_K.moved hW9.alike hK⟩⟩, hS.F ht⟩) hS.2.2 dX0_isReadyInStore_22
    · refine lv_iconst (v := 1) hx hb dX0_isReadyInStore_17 (by decide) ?_
      refine lv_goto (tgt := 22) hx hb dX0_isReadyInStore_18 (by decide) ?_
      exact W.zret (v := 1) (ty := .boolean) hx hb hr rfl (fun t ht hW9 => ⟨⟨1, σ, rfl, ⟨by first | (simp only [sp_isReady, c_6, c_14, eq_self, ↓reduceIte]; done) | (simp [sp_isReady, c_6, c_14]; done), rfl⟩, ⟨by rw [ht]; exact hW, va_K.moved hW9.alike hK⟩⟩, hS.F ht⟩) hS.2.2 dX0_isReadyInStore_22
set_option maxHeartbeats 4000000 in
set_option maxRecDepth 100000 in
/-- isShown -/
theorem kX0_isShown (l : Launch) (D : va_G) (d : hs_Dm) (L : hs_Lo) (σ : hs_St) (A : Nat → Prop) (f : Nat) (hf : f < 8) : hs_Mi l yX0_isShown wsX0_isShown ({ frames := 0, cells := 0, slots := 0, locals := 0 }) D d L σ A [.ref (L 9 f)] (fun r τ => sp_isShown σ f = r ∧ σ = τ) := by
  refine Met.ofW (cc := cX0_isShown) (maxL := 1) (ret := (some .boolean)) (by decide) rfl ?_
  intro p e s m args below meth c s₁ B hml hv
  obtain ⟨rfl, ⟨hW, hK⟩, hE⟩ := hv
  have hx := B.exec
  have hb := B.bytes
  have hr := B.returns
  have hts := atoms_spec (ws := wsX0_isShown) B.pre
  have hown : s.vm.findClass RX0 = some m.cls := findClass_of_methodNamed B.named
  have hlocks := B.notSynchronized
  have hS : va_S A s.heap s.heap [] := va_S.rf
  have hW : hs_W D d L σ A s.heap := hW
  have hl := lv_entry ([.ref (L 9 f)]) (n := 1) (Nat.le_of_ble_eq_true rfl)
  rw [lg_entry_eq]
  generalize (lg_sl ([.ref (L 9 f)]) ++ List.replicate (1 - (lg_sl ([.ref (L 9 f)])).length) Slot.unset).toArray = ls at hl ⊢
  have hl : lv_has ls 1 [(0, .ref (L 9 f))] := hl
  refine lv_aload_n hx hb dX0_isShown_0 rfl (lv_at hl 0 rfl) ?_
  refine va_get (D := D) (ci := cFi) (C := RX0) (T := TX0) (N := 11) (ws := [(L 9 f, hs_ct d L σ 9 f)]) (v := .int (σ 9 f 7)) hx hb hts (by decide +kernel) hown hK (hW.one (hs_ix9 hf)) 0 rfl rfl 7 (by decide) (hts (.fieldLink RX0 18 "Waxrow$Figure" "place" "I") (by decide +kernel)) (fun _ h9 => h9) rfl dX0_isShown_1 ?_
  refine lv_if_lt (tgt := 19) hx hb dX0_isShown_4 (by decide) (fun c_4 => ?_) (fun c_4 => ?_)
  · refine lv_iconst (v := 0) hx hb dX0_isShown_19 (by decide) ?_
    exact W.zret (v := 0) (ty := .boolean) hx hb hr rfl (fun t ht hW9 => ⟨⟨0, σ, rfl, ⟨by first | (simp only [sp_isShown, c_4, eq_self, ↓reduceIte]; done) | (simp [sp_isShown, c_4]; done), rfl⟩, ⟨by rw [ht]; exact hW, va_K.moved hW9.alike hK⟩⟩, hS.F ht⟩) hS.2.2 dX0_isShown_20
  · refine lv_aload_n hx hb dX0_isShown_7 rfl (lv_at hl 0 rfl) ?_
    refine va_get (D := D) (ci := cFi) (C := RX0) (T := TX0) (N := 11) (ws := [(L 9 f, hs_ct d L σ 9 f)]) (v := .int (σ 9 f 7)) hx hb hts (by decide +kernel) hown hK (hW.one (hs_ix9 hf)) 0 rfl rfl 7 (by decide) (hts (.fieldLink RX0 18 "Waxrow$Figure" "place" "I") (by decide +kernel)) (fun _ h9 => h9) rfl dX0_isShown_8 ?_
    refine lv_iconst (v := 5) hx hb dX0_isShown_11 (by decide) ?_
    refine lv_icmp_ge (tgt := 19) hx hb dX0_isShown_12 (by decide) (fun c_12 => ?_) (fun c_12 => ?_)
    · refine lv_iconst (v := 0) hx hb dX0_isShown_19 (by decide) ?_
      exact W.zret (v := 0) (ty := .boolean) hx hb hr rfl (fun t ht hW9 => ⟨⟨0, σ, rfl, ⟨by first | (simp only [sp_isShown, c_4, c_12, eq_self, ↓reduceIte]; done) | (simp [sp_isShown, c_4, c_12]; done), rfl⟩, ⟨by rw [ht]; exact hW, va_K.moved hW9.alike hK⟩⟩, hS.F ht⟩) hS.2.2 dX0_isShown_20
    · refine lv_iconst (v := 1) hx hb dX0_isShown_15 (by decide) ?_
      refine lv_goto (tgt := 20) hx hb dX0_isShown_16 (by decide) ?_
      exact W.zret (v := 1) (ty := .boolean) hx hb hr rfl (fun t ht hW9 => ⟨⟨1, σ, rfl, ⟨by first | (simp only [sp_isShown, c_4, c_12, eq_self, ↓reduceIte]; done) | (simp [sp_isShown, c_4, c_12]; done), rfl⟩, ⟨by rw [ht]; exact hW, va_K.moved hW9.alike hK⟩⟩, hS.F ht⟩) hS.2.2 dX0_isShown_20
set_option maxHeartbeats 4000000 in
set_option maxRecDepth 100000 in
/-- becomeMelted -/
theorem kX0_becomeMelted (l : Launch) (D : va_G) (d : hs_Dm) (L : hs_Lo) (σ : hs_St) (A : Nat → Prop) (f : Nat) (hf : f < 8) : hs_Mv l yX0_becomeMelted wsX0_becomeMelted ({ frames := 0, cells := 0, slots := 0, locals := 0 }) D d L σ A [.ref (L 9 f)] (fun τ => sp_melt σ f = τ) := by
  refine Met.ofW (cc := cX0_becomeMelted) (maxL := 1) (ret := none) (by decide) rfl ?_
  intro p e s m args below meth c s₁ B hml hv
  obtain ⟨rfl, ⟨hW, hK⟩, hE⟩ := hv
  have hx := B.exec
  have hb := B.bytes
  have hr := B.returns
  have hts := atoms_spec (ws := wsX0_becomeMelted) B.pre
  have hown : s.vm.findClass RX0 = some m.cls := findClass_of_methodNamed B.named
  have hlocks := B.notSynchronized
  have hS : va_S A s.heap s.heap [] := va_S.rf
  have hW : hs_W D d L σ A s.heap := hW
  have hl := lv_entry ([.ref (L 9 f)]) (n := 1) (Nat.le_of_ble_eq_true rfl)
  rw [lg_entry_eq]
  generalize (lg_sl ([.ref (L 9 f)]) ++ List.replicate (1 - (lg_sl ([.ref (L 9 f)])).length) Slot.unset).toArray = ls at hl ⊢
  have hl : lv_has ls 1 [(0, .ref (L 9 f))] := hl
  refine lv_aload_n hx hb dX0_becomeMelted_0 rfl (lv_at hl 0 rfl) ?_
  refine lv_bipush (v := 7) hx hb dX0_becomeMelted_1 (by decide) ?_
  refine hs_put (ci := cFi) (C := RX0) (T := TX0) (N := 11) (ty := .int) hx hb hts (by decide +kernel) tyX0 tyX0_ok nmX0 hown hK hW hS 9 f (hs_ix9 hf) rfl rfl 7 (by decide) (hts (.fieldLink RX0 18 "Waxrow$Figure" "place" "I") (by decide +kernel)) (fun _ h9 => h9) rfl (by decide +kernel) rfl rfl (Nat.le_of_ble_eq_true rfl) (hs_sg σ 9 f 7 7) (by simp [hs_ct, hs_sg]) (hs_off _ _ _ _ _) dX0_becomeMelted_3 (fun H locs hW hS => ?_)
  refine lv_aload_n hx hb dX0_becomeMelted_6 rfl (lv_at hl 0 rfl) ?_
  refine lv_iconst (v := 0) hx hb dX0_becomeMelted_7 (by decide) ?_
  refine hs_put (ci := cFi) (C := RX0) (T := TX0) (N := 11) (ty := .int) hx hb hts (by decide +kernel) tyX0 tyX0_ok nmX0 hown hK hW hS 9 f (hs_ix9 hf) rfl rfl 4 (by decide) (hts (.fieldLink RX0 28 "Waxrow$Figure" "hands" "I") (by decide +kernel)) (fun _ h9 => h9) rfl (by decide +kernel) rfl rfl (Nat.le_of_ble_eq_true rfl) (hs_sg (hs_sg σ 9 f 7 7) 9 f 4 0) (by simp [hs_ct, hs_sg]) (hs_off _ _ _ _ _) dX0_becomeMelted_8 (fun H locs hW hS => ?_)
  exact W.vret hx hb hr (fun t ht hW9 => ⟨⟨(hs_sg (hs_sg σ 9 f 7 7) 9 f 4 0), rfl, rfl, ⟨by rw [ht]; exact hW, va_K.moved hW9.alike hK⟩⟩, hS.F ht⟩) hS.2.2 dX0_becomeMelted_11
set_option maxHeartbeats 4000000 in
set_option maxRecDepth 100000 in
/-- heldFame -/
theorem kX2_heldFame (l : Launch) (D : va_G) (d : hs_Dm) (L : hs_Lo) (σ : hs_St) (A : Nat → Prop) (x : Int32) : hs_Mi l yX2_heldFame wsX2_heldFame ({ frames := 0, cells := 0, slots := 0, locals := 0 }) D d L σ A [.int x] (fun r τ => sp_held x = r ∧ σ = τ) := by
  refine Met.ofW (cc := cX2_heldFame) (maxL := 1) (ret := (some .int)) (by decide) rfl ?_
  intro p e s m args below meth c s₁ B hml hv
  obtain ⟨rfl, ⟨hW, hK⟩, hE⟩ := hv
  have hx := B.exec
  have hb := B.bytes
  have hr := B.returns
  have hts := atoms_spec (ws := wsX2_heldFame) B.pre
  have hown : s.vm.findClass RX2 = some m.cls := findClass_of_methodNamed B.named
  have hlocks := B.notSynchronized
  have hS : va_S A s.heap s.heap [] := va_S.rf
  have hW : hs_W D d L σ A s.heap := hW
  have hl := lv_entry ([.int x]) (n := 1) (Nat.le_of_ble_eq_true rfl)
  rw [lg_entry_eq]
  generalize (lg_sl ([.int x]) ++ List.replicate (1 - (lg_sl ([.int x])).length) Slot.unset).toArray = ls at hl ⊢
  have hl : lv_has ls 1 [(0, .int x)] := hl
  refine lv_iload_n hx hb dX2_heldFame_0 rfl (lv_at hl 0 rfl) ?_
  refine lv_if_ge (tgt := 8) hx hb dX2_heldFame_1 (by decide) (fun c_1 => ?_) (fun c_1 => ?_)
  · refine lv_iload_n hx hb dX2_heldFame_8 rfl (lv_at hl 0 rfl) ?_
    refine lv_sipush (v := 999) hx hb dX2_heldFame_9 (by decide) ?_
    refine lv_icmp_le (tgt := 21) hx hb dX2_heldFame_12 (by decide) (fun c_12 => ?_) (fun c_12 => ?_)
    · refine lv_iload_n hx hb dX2_heldFame_21 rfl (lv_at hl 0 rfl) ?_
      exact W.iret (v := x) hx hb hr (fun t ht hW9 => ⟨⟨x, σ, rfl, ⟨by first | (simp only [sp_held, c_1, c_12, eq_self, ↓reduceIte]; done) | (simp [sp_held, c_1, c_12]; done), rfl⟩, ⟨by rw [ht]; exact hW, va_K.moved hW9.alike hK⟩⟩, hS.F ht⟩) hS.2.2 dX2_heldFame_22
    · refine lv_sipush (v := 999) hx hb dX2_heldFame_15 (by decide) ?_
      refine lv_goto (tgt := 22) hx hb dX2_heldFame_18 (by decide) ?_
      exact W.iret (v := 999) hx hb hr (fun t ht hW9 => ⟨⟨999, σ, rfl, ⟨by first | (simp only [sp_held, c_1, c_12, eq_self, ↓reduceIte]; done) | (simp [sp_held, c_1, c_12]; done), rfl⟩, ⟨by rw [ht]; exact hW, va_K.moved hW9.alike hK⟩⟩, hS.F ht⟩) hS.2.2 dX2_heldFame_22
  · refine lv_iconst (v := 0) hx hb dX2_heldFame_4 (by decide) ?_
    refine lv_goto (tgt := 22) hx hb dX2_heldFame_5 (by decide) ?_
    exact W.iret (v := 0) hx hb hr (fun t ht hW9 => ⟨⟨0, σ, rfl, ⟨by first | (simp only [sp_held, c_1, eq_self, ↓reduceIte]; done) | (simp [sp_held, c_1]; done), rfl⟩, ⟨by rw [ht]; exact hW, va_K.moved hW9.alike hK⟩⟩, hS.F ht⟩) hS.2.2 dX2_heldFame_22
set_option maxHeartbeats 4000000 in
set_option maxRecDepth 100000 in
/-- nearerToZero -/
theorem kX2_nearerToZero (l : Launch) (D : va_G) (d : hs_Dm) (L : hs_Lo) (σ : hs_St) (A : Nat → Prop) (x : Int32) : hs_Mi l yX2_nearerToZero wsX2_nearerToZero ({ frames := 0, cells := 0, slots := 0, locals := 0 }) D d L σ A [.int x] (fun r τ => sp_nearer x = r ∧ σ = τ) := by
  refine Met.ofW (cc := cX2_nearerToZero) (maxL := 1) (ret := (some .int)) (by decide) rfl ?_
  intro p e s m args below meth c s₁ B hml hv
  obtain ⟨rfl, ⟨hW, hK⟩, hE⟩ := hv
  have hx := B.exec
  have hb := B.bytes
  have hr := B.returns
  have hts := atoms_spec (ws := wsX2_nearerToZero) B.pre
  have hown : s.vm.findClass RX2 = some m.cls := findClass_of_methodNamed B.named
  have hlocks := B.notSynchronized
  have hS : va_S A s.heap s.heap [] := va_S.rf
  have hW : hs_W D d L σ A s.heap := hW
  have hl := lv_entry ([.int x]) (n := 1) (Nat.le_of_ble_eq_true rfl)
  rw [lg_entry_eq]
  generalize (lg_sl ([.int x]) ++ List.replicate (1 - (lg_sl ([.int x])).length) Slot.unset).toArray = ls at hl ⊢
  have hl : lv_has ls 1 [(0, .int x)] := hl
  refine lv_iload_n hx hb dX2_nearerToZero_0 rfl (lv_at hl 0 rfl) ?_
  refine lv_if_le (tgt := 10) hx hb dX2_nearerToZero_1 (by decide) (fun c_1 => ?_) (fun c_1 => ?_)
  · refine lv_iload_n hx hb dX2_nearerToZero_10 rfl (lv_at hl 0 rfl) ?_
    refine lv_if_ge (tgt := 20) hx hb dX2_nearerToZero_11 (by decide) (fun c_11 => ?_) (fun c_11 => ?_)
    · refine lv_iconst (v := 0) hx hb dX2_nearerToZero_20 (by decide) ?_
      exact W.iret (v := 0) hx hb hr (fun t ht hW9 => ⟨⟨0, σ, rfl, ⟨by first | (simp only [sp_nearer, c_1, c_11, eq_self, ↓reduceIte]; done) | (simp [sp_nearer, c_1, c_11]; done), rfl⟩, ⟨by rw [ht]; exact hW, va_K.moved hW9.alike hK⟩⟩, hS.F ht⟩) hS.2.2 dX2_nearerToZero_21
    · refine lv_iload_n hx hb dX2_nearerToZero_14 rfl (lv_at hl 0 rfl) ?_
      refine lv_iconst (v := 1) hx hb dX2_nearerToZero_15 (by decide) ?_
      refine lv_iadd hx hb dX2_nearerToZero_16 ?_
      refine lv_goto (tgt := 21) hx hb dX2_nearerToZero_17 (by decide) ?_
      exact W.iret (v := x + 1) hx hb hr (fun t ht hW9 => ⟨⟨(x + 1), σ, rfl, ⟨by first | (simp only [sp_nearer, c_1, c_11, eq_self, ↓reduceIte]; done) | (simp [sp_nearer, c_1, c_11]; done), rfl⟩, ⟨by rw [ht]; exact hW, va_K.moved hW9.alike hK⟩⟩, hS.F ht⟩) hS.2.2 dX2_nearerToZero_21
  · refine lv_iload_n hx hb dX2_nearerToZero_4 rfl (lv_at hl 0 rfl) ?_
    refine lv_iconst (v := 1) hx hb dX2_nearerToZero_5 (by decide) ?_
    refine lv_isub hx hb dX2_nearerToZero_6 ?_
    refine lv_goto (tgt := 21) hx hb dX2_nearerToZero_7 (by decide) ?_
    exact W.iret (v := x - 1) hx hb hr (fun t ht hW9 => ⟨⟨(x - 1), σ, rfl, ⟨by first | (simp only [sp_nearer, c_1, eq_self, ↓reduceIte]; done) | (simp [sp_nearer, c_1]; done), rfl⟩, ⟨by rw [ht]; exact hW, va_K.moved hW9.alike hK⟩⟩, hS.F ht⟩) hS.2.2 dX2_nearerToZero_21
set_option maxHeartbeats 4000000 in
set_option maxRecDepth 100000 in
/-- doubleHeight -/
theorem kX2_doubleHeight (l : Launch) (D : va_G) (d : hs_Dm) (L : hs_Lo) (σ : hs_St) (A : Nat → Prop) (q : Nat) (hq : q < 10) : hs_Mi l yX2_doubleHeight wsX2_doubleHeight ({ frames := 0, cells := 0, slots := 0, locals := 0 }) D d L σ A [.ref (L 4 q)] (fun r τ => sp_height σ q = r ∧ σ = τ) := by
  refine Met.ofW (cc := cX2_doubleHeight) (maxL := 1) (ret := (some .int)) (by decide) rfl ?_
  intro p e s m args below meth c s₁ B hml hv
  obtain ⟨rfl, ⟨hW, hK⟩, hE⟩ := hv
  have hx := B.exec
  have hb := B.bytes
  have hr := B.returns
  have hts := atoms_spec (ws := wsX2_doubleHeight) B.pre
  have hown : s.vm.findClass RX2 = some m.cls := findClass_of_methodNamed B.named
  have hlocks := B.notSynchronized
  have hS : va_S A s.heap s.heap [] := va_S.rf
  have hW : hs_W D d L σ A s.heap := hW
  have hl := lv_entry ([.ref (L 4 q)]) (n := 1) (Nat.le_of_ble_eq_true rfl)
  rw [lg_entry_eq]
  generalize (lg_sl ([.ref (L 4 q)]) ++ List.replicate (1 - (lg_sl ([.ref (L 4 q)])).length) Slot.unset).toArray = ls at hl ⊢
  have hl : lv_has ls 1 [(0, .ref (L 4 q))] := hl
  refine lv_aload_n hx hb dX2_doubleHeight_0 rfl (lv_at hl 0 rfl) ?_
  refine va_get (D := D) (ci := cPe) (C := RX2) (T := TX2) (N := 8) (ws := [(L 4 q, hs_ct d L σ 4 q)]) (v := .ref (L 7 q)) hx hb hts (by decide +kernel) hown hK (hW.one (hs_ix4 hq)) 0 rfl rfl 3 (by decide) (hts (.fieldLink RX2 22 "Waxrow$Person" "low" "[I") (by decide +kernel)) (fun _ h9 => h9) rfl dX2_doubleHeight_1 ?_
  refine lv_iconst (v := 5) hx hb dX2_doubleHeight_4 (by decide) ?_
  refine hs_iald (n := 6) (f := σ 7 q) hx hb hK hW 7 q (hs_ix7 hq) rfl (show ¬ ((5 : Int32) < 0 ∨ 6 ≤ (5 : Int32).toNatClampNeg) by decide) dX2_doubleHeight_5 ?_
  rw [show σ 7 q (5 : Int32).toNatClampNeg = σ 7 q 5 from congrArg (σ 7 q) (show (5 : Int32).toNatClampNeg = 5 from rfl)]
  refine lv_aload_n hx hb dX2_doubleHeight_6 rfl (lv_at hl 0 rfl) ?_
  refine va_get (D := D) (ci := cPe) (C := RX2) (T := TX2) (N := 8) (ws := [(L 4 q, hs_ct d L σ 4 q)]) (v := .ref (L 8 q)) hx hb hts (by decide +kernel) hown hK (hW.one (hs_ix4 hq)) 0 rfl rfl 4 (by decide) (hts (.fieldLink RX2 25 "Waxrow$Person" "high" "[I") (by decide +kernel)) (fun _ h9 => h9) rfl dX2_doubleHeight_7 ?_
  refine lv_iconst (v := 5) hx hb dX2_doubleHeight_10 (by decide) ?_
  refine hs_iald (n := 6) (f := σ 8 q) hx hb hK hW 8 q (hs_ix8 hq) rfl (show ¬ ((5 : Int32) < 0 ∨ 6 ≤ (5 : Int32).toNatClampNeg) by decide) dX2_doubleHeight_11 ?_
  rw [show σ 8 q (5 : Int32).toNatClampNeg = σ 8 q 5 from congrArg (σ 8 q) (show (5 : Int32).toNatClampNeg = 5 from rfl)]
  refine lv_iadd hx hb dX2_doubleHeight_12 ?_
  exact W.iret (v := (σ 7 q 5) + (σ 8 q 5)) hx hb hr (fun t ht hW9 => ⟨⟨((σ 7 q 5) + (σ 8 q 5)), σ, rfl, ⟨by first | (simp only [sp_height, eq_self, ↓reduceIte]; done) | (simp [sp_height]; done), rfl⟩, ⟨by rw [ht]; exact hW, va_K.moved hW9.alike hK⟩⟩, hS.F ht⟩) hS.2.2 dX2_doubleHeight_13
set_option maxHeartbeats 4000000 in
set_option maxRecDepth 100000 in
/-- likeness -/
theorem kX0_likeness (l : Launch) (D : va_G) (d : hs_Dm) (L : hs_Lo) (σ : hs_St) (A : Nat → Prop) (f : Nat) (hf : f < 8) (hh : hs_hd σ) : hs_Mi l yX0_likeness wsX0_likeness ({ frames := 1, cells := 0, slots := 0, locals := 21 }) D d L σ A [.ref (L 9 f)] (fun r τ => sp_likeness σ f = r ∧ σ = τ) := by
  refine Met.ofW (cc := cX0_likeness) (maxL := 3) (ret := (some .int)) (by decide) rfl ?_
  intro p e s m args below meth c s₁ B hml hv
  obtain ⟨rfl, ⟨hW, hK⟩, hE⟩ := hv
  have hx := B.exec
  have hb := B.bytes
  have hr := B.returns
  have hts := atoms_spec (ws := wsX0_likeness) B.pre
  have hown : s.vm.findClass RX0 = some m.cls := findClass_of_methodNamed B.named
  have hlocks := B.notSynchronized
  have hS : va_S A s.heap s.heap [] := va_S.rf
  have hW : hs_W D d L σ A s.heap := hW
  have hl := lv_entry ([.ref (L 9 f)]) (n := 3) (Nat.le_of_ble_eq_true rfl)
  rw [lg_entry_eq]
  generalize (lg_sl ([.ref (L 9 f)]) ++ List.replicate (3 - (lg_sl ([.ref (L 9 f)])).length) Slot.unset).toArray = ls at hl ⊢
  have hl : lv_has ls 3 [(0, .ref (L 9 f))] := hl
  refine lv_aload_n hx hb dX0_likeness_0 rfl (lv_at hl 0 rfl) ?_
  refine hs_calli (As := []) ⟨hx, hb, hml, hown, hts⟩ (kX0_isDone l D d L σ A f hf) (cwV 0 hts gX0_likeness_X0_isDone rfl rfl rfl (by decide +kernel) ⟨Nat.le_of_ble_eq_true rfl, Nat.le_of_ble_eq_true rfl⟩) hK hE hW hS (hs_ix9 hf) (ci := cFi) (r := (RX0, TX0, 11)) rfl rfl rfl rfl hl.1 (Nat.le_of_ble_eq_true rfl) dX0_likeness_1 ⟨Nat.zero_le _, Nat.zero_le _⟩ rfl (fun r_ τ_ H locs hp hW hS => ?_)
  obtain ⟨rfl, rfl⟩ := hp
  refine lv_if_ne (tgt := 9) hx hb dX0_likeness_4 (by decide) (fun c_4 => ?_) (fun c_4 => ?_)
  · refine lv_bipush (v := 100) hx hb dX0_likeness_9 (by decide) ?_
    refine lv_aload_n hx hb dX0_likeness_11 rfl (lv_at hl 0 rfl) ?_
    refine va_get (D := D) (ci := cFi) (C := RX0) (T := TX0) (N := 11) (ws := [(L 9 f, hs_ct d L σ 9 f)]) (v := .int (σ 9 f 5)) hx hb hts (by decide +kernel) hown hK (hW.one (hs_ix9 hf)) 0 rfl rfl 5 (by decide) (hts (.fieldLink RX0 31 "Waxrow$Figure" "flaw" "I") (by decide +kernel)) (fun _ h9 => h9) rfl dX0_likeness_12 ?_
    refine lv_isub hx hb dX0_likeness_15 ?_
    refine lv_aload_n hx hb dX0_likeness_16 rfl (lv_at hl 0 rfl) ?_
    refine va_get (D := D) (ci := cFi) (C := RX0) (T := TX0) (N := 11) (ws := [(L 9 f, hs_ct d L σ 9 f)]) (v := .int (σ 9 f 6)) hx hb hts (by decide +kernel) hown hK (hW.one (hs_ix9 hf)) 0 rfl rfl 6 (by decide) (hts (.fieldLink RX0 34 "Waxrow$Figure" "wear" "I") (by decide +kernel)) (fun _ h9 => h9) rfl dX0_likeness_17 ?_
    refine lv_iconst (v := 2) hx hb dX0_likeness_20 (by decide) ?_
    refine lv_idiv hx hb dX0_likeness_21 (by decide) ?_
    refine lv_isub hx hb dX0_likeness_22 ?_
    refine lv_istore_n (lv' := [(1, .int ((100 - (σ 9 f 5)) - ((σ 9 f 6) / 2))), (0, .ref (L 9 f))]) hx hb dX0_likeness_23 rfl hl (by decide) rfl (fun ls hl => ?_)
    refine lv_aload_n hx hb dX0_likeness_24 rfl (lv_at hl 1 rfl) ?_
    refine va_get (D := D) (ci := cFi) (C := RX0) (T := TX0) (N := 11) (ws := [(L 9 f, hs_ct d L σ 9 f)]) (v := .ref (L 4 ((σ 9 f 0).toNatClampNeg))) hx hb hts (by decide +kernel) hown hK (hW.one (hs_ix9 hf)) 0 rfl rfl 0 (by decide) (hts (.fieldLink RX0 9 "Waxrow$Figure" "head" "LWaxrow$Person;") (by decide +kernel)) (fun _ h9 => h9) rfl dX0_likeness_25 ?_
    refine lv_aload_n hx hb dX0_likeness_28 rfl (lv_at hl 1 rfl) ?_
    refine va_get (D := D) (ci := cFi) (C := RX0) (T := TX0) (N := 11) (ws := [(L 9 f, hs_ct d L σ 9 f)]) (v := .ref (L 4 ((σ 9 f 1).toNatClampNeg))) hx hb hts (by decide +kernel) hown hK (hW.one (hs_ix9 hf)) 0 rfl rfl 1 (by decide) (hts (.fieldLink RX0 15 "Waxrow$Figure" "body" "LWaxrow$Person;") (by decide +kernel)) (fun _ h9 => h9) rfl dX0_likeness_29 ?_
    refine lv_acmp_eq (rx := some (L 4 ((σ 9 f 0).toNatClampNeg))) (ry := some (L 4 ((σ 9 f 1).toNatClampNeg))) (tgt := 66) hx hb dX0_likeness_32 (by decide) (fun c_32 => ?_) (fun c_32 => ?_)
    · have c_32 : ((σ 9 f 0).toNatClampNeg) = ((σ 9 f 1).toNatClampNeg) := (hW.2.2 _ _ _ _ (hs_ix4 ((hh f (by omega)).1)) (hs_ix4 ((hh f (by omega)).2)) (Option.some.inj c_32)).2
      refine lv_iload_n hx hb dX0_likeness_66 rfl (lv_at hl 0 rfl) ?_
      refine lv_if_ge (tgt := 74) hx hb dX0_likeness_67 (by decide) (fun c_67 => ?_) (fun c_67 => ?_)
      · refine lv_iload_n hx hb dX0_likeness_74 rfl (lv_at hl 0 rfl) ?_
        exact W.iret (v := (100 - (σ 9 f 5)) - ((σ 9 f 6) / 2)) hx hb hr (fun t ht hW9 => ⟨⟨((100 - (σ 9 f 5)) - ((σ 9 f 6) / 2)), σ, rfl, ⟨by first | (simp only [sp_likeness, sp_gap, c_4, c_32, c_67, eq_self, ↓reduceIte]; done) | (simp [sp_likeness, sp_gap, c_4, c_32, c_67]; done), rfl⟩, ⟨by rw [ht]; exact hW, va_K.moved hW9.alike hK⟩⟩, hS.F ht⟩) hS.2.2 dX0_likeness_75
      · refine lv_iconst (v := 0) hx hb dX0_likeness_70 (by decide) ?_
        refine lv_goto (tgt := 75) hx hb dX0_likeness_71 (by decide) ?_
        exact W.iret (v := 0) hx hb hr (fun t ht hW9 => ⟨⟨0, σ, rfl, ⟨by first | (simp only [sp_likeness, sp_gap, c_4, c_32, c_67, eq_self, ↓reduceIte]; done) | (simp [sp_likeness, sp_gap, c_4, c_32, c_67]; done), rfl⟩, ⟨by rw [ht]; exact hW, va_K.moved hW9.alike hK⟩⟩, hS.F ht⟩) hS.2.2 dX0_likeness_75
    · have c_32 : ¬ ((σ 9 f 0).toNatClampNeg) = ((σ 9 f 1).toNatClampNeg) := fun q => c_32 (by rw [q])
      refine lv_aload_n hx hb dX0_likeness_35 rfl (lv_at hl 1 rfl) ?_
      refine va_get (D := D) (ci := cFi) (C := RX0) (T := TX0) (N := 11) (ws := [(L 9 f, hs_ct d L σ 9 f)]) (v := .ref (L 4 ((σ 9 f 0).toNatClampNeg))) hx hb hts (by decide +kernel) hown hK (hW.one (hs_ix9 hf)) 0 rfl rfl 0 (by decide) (hts (.fieldLink RX0 9 "Waxrow$Figure" "head" "LWaxrow$Person;") (by decide +kernel)) (fun _ h9 => h9) rfl dX0_likeness_36 ?_
      refine hs_calli (As := []) ⟨hx, hb, hml, hown, hts⟩ (kX2_doubleHeight l D d L σ A ((σ 9 f 0).toNatClampNeg) (hh f (by omega)).1) (cwV 0 hts gX0_likeness_X2_doubleHeight rfl rfl rfl (by decide +kernel) ⟨Nat.le_of_ble_eq_true rfl, Nat.le_of_ble_eq_true rfl⟩) hK hE hW hS (hs_ix4 ((hh f (by omega)).1)) (ci := cPe) (r := (RX2, TX2, 8)) rfl rfl rfl rfl hl.1 (Nat.le_of_ble_eq_true rfl) dX0_likeness_39 ⟨Nat.zero_le _, Nat.zero_le _⟩ rfl (fun r_ τ_ H locs hp hW hS => ?_)
      obtain ⟨rfl, rfl⟩ := hp
      refine lv_aload_n hx hb dX0_likeness_42 rfl (lv_at hl 1 rfl) ?_
      refine va_get (D := D) (ci := cFi) (C := RX0) (T := TX0) (N := 11) (ws := [(L 9 f, hs_ct d L σ 9 f)]) (v := .ref (L 4 ((σ 9 f 1).toNatClampNeg))) hx hb hts (by decide +kernel) hown hK (hW.one (hs_ix9 hf)) 0 rfl rfl 1 (by decide) (hts (.fieldLink RX0 15 "Waxrow$Figure" "body" "LWaxrow$Person;") (by decide +kernel)) (fun _ h9 => h9) rfl dX0_likeness_43 ?_
      refine hs_calli (As := []) ⟨hx, hb, hml, hown, hts⟩ (kX2_doubleHeight l D d L σ A ((σ 9 f 1).toNatClampNeg) (hh f (by omega)).2) (cwV 0 hts gX0_likeness_X2_doubleHeight rfl rfl rfl (by decide +kernel) ⟨Nat.le_of_ble_eq_true rfl, Nat.le_of_ble_eq_true rfl⟩) hK hE hW hS (hs_ix4 ((hh f (by omega)).2)) (ci := cPe) (r := (RX2, TX2, 8)) rfl rfl rfl rfl hl.1 (Nat.le_of_ble_eq_true rfl) dX0_likeness_46 ⟨Nat.zero_le _, Nat.zero_le _⟩ rfl (fun r_ τ_ H locs hp hW hS => ?_)
      obtain ⟨rfl, rfl⟩ := hp
      refine lv_isub hx hb dX0_likeness_49 ?_
      refine lv_istore_n (lv' := [(2, .int ((sp_height σ ((σ 9 f 0).toNatClampNeg)) - (sp_height σ ((σ 9 f 1).toNatClampNeg)))), (1, .int ((100 - (σ 9 f 5)) - ((σ 9 f 6) / 2))), (0, .ref (L 9 f))]) hx hb dX0_likeness_50 rfl hl (by decide) rfl (fun ls hl => ?_)
      refine lv_iload_n hx hb dX0_likeness_51 rfl (lv_at hl 1 rfl) ?_
      refine lv_iload_n hx hb dX0_likeness_52 rfl (lv_at hl 0 rfl) ?_
      refine lv_if_ge (tgt := 61) hx hb dX0_likeness_53 (by decide) (fun c_53 => ?_) (fun c_53 => ?_)
      · refine lv_iload_n hx hb dX0_likeness_61 rfl (lv_at hl 0 rfl) ?_
        refine lv_iconst (v := 4) hx hb dX0_likeness_62 (by decide) ?_
        refine lv_idiv hx hb dX0_likeness_63 (by decide) ?_
        refine lv_isub hx hb dX0_likeness_64 ?_
        refine lv_istore_n (lv' := [(1, .int (((100 - (σ 9 f 5)) - ((σ 9 f 6) / 2)) - (((sp_height σ ((σ 9 f 0).toNatClampNeg)) - (sp_height σ ((σ 9 f 1).toNatClampNeg))) / 4))), (2, .int ((sp_height σ ((σ 9 f 0).toNatClampNeg)) - (sp_height σ ((σ 9 f 1).toNatClampNeg)))), (0, .ref (L 9 f))]) hx hb dX0_likeness_65 rfl hl (by decide) rfl (fun ls hl => ?_)
        refine lv_iload_n hx hb dX0_likeness_66 rfl (lv_at hl 0 rfl) ?_
        refine lv_if_ge (tgt := 74) hx hb dX0_likeness_67 (by decide) (fun c_67 => ?_) (fun c_67 => ?_)
        · refine lv_iload_n hx hb dX0_likeness_74 rfl (lv_at hl 0 rfl) ?_
          exact W.iret (v := ((100 - (σ 9 f 5)) - ((σ 9 f 6) / 2)) - (((sp_height σ ((σ 9 f 0).toNatClampNeg)) - (sp_height σ ((σ 9 f 1).toNatClampNeg))) / 4)) hx hb hr (fun t ht hW9 => ⟨⟨(((100 - (σ 9 f 5)) - ((σ 9 f 6) / 2)) - (((sp_height σ ((σ 9 f 0).toNatClampNeg)) - (sp_height σ ((σ 9 f 1).toNatClampNeg))) / 4)), σ, rfl, ⟨by first | (simp only [sp_likeness, sp_gap, c_4, c_32, c_53, c_67, eq_self, ↓reduceIte]; done) | (simp [sp_likeness, sp_gap, c_4, c_32, c_53, c_67]; done), rfl⟩, ⟨by rw [ht]; exact hW, va_K.moved hW9.alike hK⟩⟩, hS.F ht⟩) hS.2.2 dX0_likeness_75
        · refine lv_iconst (v := 0) hx hb dX0_likeness_70 (by decide) ?_
          refine lv_goto (tgt := 75) hx hb dX0_likeness_71 (by decide) ?_
          exact W.iret (v := 0) hx hb hr (fun t ht hW9 => ⟨⟨0, σ, rfl, ⟨by first | (simp only [sp_likeness, sp_gap, c_4, c_32, c_53, c_67, eq_self, ↓reduceIte]; done) | (simp [sp_likeness, sp_gap, c_4, c_32, c_53, c_67]; done), rfl⟩, ⟨by rw [ht]; exact hW, va_K.moved hW9.alike hK⟩⟩, hS.F ht⟩) hS.2.2 dX0_likeness_75
      · refine lv_iload_n hx hb dX0_likeness_56 rfl (lv_at hl 0 rfl) ?_
        refine lv_ineg hx hb dX0_likeness_57 ?_
        refine lv_goto (tgt := 62) hx hb dX0_likeness_58 (by decide) ?_
        refine lv_iconst (v := 4) hx hb dX0_likeness_62 (by decide) ?_
        refine lv_idiv hx hb dX0_likeness_63 (by decide) ?_
        refine lv_isub hx hb dX0_likeness_64 ?_
        refine lv_istore_n (lv' := [(1, .int (((100 - (σ 9 f 5)) - ((σ 9 f 6) / 2)) - ((- ((sp_height σ ((σ 9 f 0).toNatClampNeg)) - (sp_height σ ((σ 9 f 1).toNatClampNeg)))) / 4))), (2, .int ((sp_height σ ((σ 9 f 0).toNatClampNeg)) - (sp_height σ ((σ 9 f 1).toNatClampNeg)))), (0, .ref (L 9 f))]) hx hb dX0_likeness_65 rfl hl (by decide) rfl (fun ls hl => ?_)
        refine lv_iload_n hx hb dX0_likeness_66 rfl (lv_at hl 0 rfl) ?_
        refine lv_if_ge (tgt := 74) hx hb dX0_likeness_67 (by decide) (fun c_67 => ?_) (fun c_67 => ?_)
        · refine lv_iload_n hx hb dX0_likeness_74 rfl (lv_at hl 0 rfl) ?_
          exact W.iret (v := ((100 - (σ 9 f 5)) - ((σ 9 f 6) / 2)) - ((- ((sp_height σ ((σ 9 f 0).toNatClampNeg)) - (sp_height σ ((σ 9 f 1).toNatClampNeg)))) / 4)) hx hb hr (fun t ht hW9 => ⟨⟨(((100 - (σ 9 f 5)) - ((σ 9 f 6) / 2)) - ((- ((sp_height σ ((σ 9 f 0).toNatClampNeg)) - (sp_height σ ((σ 9 f 1).toNatClampNeg)))) / 4)), σ, rfl, ⟨by first | (simp only [sp_likeness, sp_gap, c_4, c_32, c_53, c_67, eq_self, ↓reduceIte]; done) | (simp [sp_likeness, sp_gap, c_4, c_32, c_53, c_67]; done), rfl⟩, ⟨by rw [ht]; exact hW, va_K.moved hW9.alike hK⟩⟩, hS.F ht⟩) hS.2.2 dX0_likeness_75
        · refine lv_iconst (v := 0) hx hb dX0_likeness_70 (by decide) ?_
          refine lv_goto (tgt := 75) hx hb dX0_likeness_71 (by decide) ?_
          exact W.iret (v := 0) hx hb hr (fun t ht hW9 => ⟨⟨0, σ, rfl, ⟨by first | (simp only [sp_likeness, sp_gap, c_4, c_32, c_53, c_67, eq_self, ↓reduceIte]; done) | (simp [sp_likeness, sp_gap, c_4, c_32, c_53, c_67]; done), rfl⟩, ⟨by rw [ht]; exact hW, va_K.moved hW9.alike hK⟩⟩, hS.F ht⟩) hS.2.2 dX0_likeness_75
  · refine lv_iconst (v := 0) hx hb dX0_likeness_7 (by decide) ?_
    exact W.iret (v := 0) hx hb hr (fun t ht hW9 => ⟨⟨0, σ, rfl, ⟨by first | (simp only [sp_likeness, sp_gap, c_4, eq_self, ↓reduceIte]; done) | (simp [sp_likeness, sp_gap, c_4]; done), rfl⟩, ⟨by rw [ht]; exact hW, va_K.moved hW9.alike hK⟩⟩, hS.F ht⟩) hS.2.2 dX0_likeness_8
set_option maxHeartbeats 4000000 in
set_option maxRecDepth 100000 in
/-- draw -/
theorem kX0_draw (l : Launch) (D : va_G) (d : hs_Dm) (L : hs_Lo) (σ : hs_St) (A : Nat → Prop) (f : Nat) (hf : f < 8) (hh : hs_hd σ) : hs_Mi l yX0_draw wsX0_draw ({ frames := 2, cells := 0, slots := 0, locals := 43 }) D d L σ A [.ref (L 9 f)] (fun r τ => sp_draw σ f = r ∧ σ = τ) := by
  refine Met.ofW (cc := cX0_draw) (maxL := 1) (ret := (some .int)) (by decide) rfl ?_
  intro p e s m args below meth c s₁ B hml hv
  obtain ⟨rfl, ⟨hW, hK⟩, hE⟩ := hv
  have hx := B.exec
  have hb := B.bytes
  have hr := B.returns
  have hts := atoms_spec (ws := wsX0_draw) B.pre
  have hown : s.vm.findClass RX0 = some m.cls := findClass_of_methodNamed B.named
  have hlocks := B.notSynchronized
  have hS : va_S A s.heap s.heap [] := va_S.rf
  have hW : hs_W D d L σ A s.heap := hW
  have hl := lv_entry ([.ref (L 9 f)]) (n := 1) (Nat.le_of_ble_eq_true rfl)
  rw [lg_entry_eq]
  generalize (lg_sl ([.ref (L 9 f)]) ++ List.replicate (1 - (lg_sl ([.ref (L 9 f)])).length) Slot.unset).toArray = ls at hl ⊢
  have hl : lv_has ls 1 [(0, .ref (L 9 f))] := hl
  refine lv_aload_n hx hb dX0_draw_0 rfl (lv_at hl 0 rfl) ?_
  refine hs_calli (As := []) ⟨hx, hb, hml, hown, hts⟩ (kX0_isShown l D d L σ A f hf) (cwV 0 hts gX0_draw_X0_isShown rfl rfl rfl (by decide +kernel) ⟨Nat.le_of_ble_eq_true rfl, Nat.le_of_ble_eq_true rfl⟩) hK hE hW hS (hs_ix9 hf) (ci := cFi) (r := (RX0, TX0, 11)) rfl rfl rfl rfl hl.1 (Nat.le_of_ble_eq_true rfl) dX0_draw_1 ⟨Nat.zero_le _, Nat.zero_le _⟩ rfl (fun r_ τ_ H locs hp hW hS => ?_)
  obtain ⟨rfl, rfl⟩ := hp
  refine lv_if_eq (tgt := 27) hx hb dX0_draw_4 (by decide) (fun c_4 => ?_) (fun c_4 => ?_)
  · refine lv_iconst (v := 0) hx hb dX0_draw_27 (by decide) ?_
    exact W.iret (v := 0) hx hb hr (fun t ht hW9 => ⟨⟨0, σ, rfl, ⟨by first | (simp only [sp_draw, c_4, eq_self, ↓reduceIte]; done) | (simp [sp_draw, c_4]; done), rfl⟩, ⟨by rw [ht]; exact hW, va_K.moved hW9.alike hK⟩⟩, hS.F ht⟩) hS.2.2 dX0_draw_28
  · refine lv_aload_n hx hb dX0_draw_7 rfl (lv_at hl 0 rfl) ?_
    refine va_get (D := D) (ci := cFi) (C := RX0) (T := TX0) (N := 11) (ws := [(L 9 f, hs_ct d L σ 9 f)]) (v := .ref (L 4 ((σ 9 f 0).toNatClampNeg))) hx hb hts (by decide +kernel) hown hK (hW.one (hs_ix9 hf)) 0 rfl rfl 0 (by decide) (hts (.fieldLink RX0 9 "Waxrow$Figure" "head" "LWaxrow$Person;") (by decide +kernel)) (fun _ h9 => h9) rfl dX0_draw_8 ?_
    refine va_get (D := D) (ci := cPe) (C := RX2) (T := TX2) (N := 8) (ws := [(L 4 ((σ 9 f 0).toNatClampNeg), hs_ct d L σ 4 ((σ 9 f 0).toNatClampNeg))]) (v := .ref (L 5 ((σ 9 f 0).toNatClampNeg))) hx hb hts (by decide +kernel) hown hK (hW.one (hs_ix4 ((hh f (by omega)).1))) 0 rfl rfl 1 (by decide) (hts (.fieldLink RX0 66 "Waxrow$Person" "fame" "[I") (by decide +kernel)) (fun _ h9 => h9) rfl dX0_draw_11 ?_
    refine lv_iconst (v := 0) hx hb dX0_draw_14 (by decide) ?_
    refine hs_iald (n := 3) (f := σ 5 ((σ 9 f 0).toNatClampNeg)) hx hb hK hW 5 ((σ 9 f 0).toNatClampNeg) (hs_ix5 ((hh f (by omega)).1)) rfl (show ¬ ((0 : Int32) < 0 ∨ 3 ≤ (0 : Int32).toNatClampNeg) by decide) dX0_draw_15 ?_
    rw [show σ 5 ((σ 9 f 0).toNatClampNeg) (0 : Int32).toNatClampNeg = σ 5 ((σ 9 f 0).toNatClampNeg) 0 from congrArg (σ 5 ((σ 9 f 0).toNatClampNeg)) (show (0 : Int32).toNatClampNeg = 0 from rfl)]
    refine lv_aload_n hx hb dX0_draw_16 rfl (lv_at hl 0 rfl) ?_
    refine hs_calli (As := []) ⟨hx, hb, hml, hown, hts⟩ (kX0_likeness l D d L σ A f hf hh) (cwV 0 hts gX0_draw_X0_likeness rfl rfl rfl (by decide +kernel) ⟨Nat.le_of_ble_eq_true rfl, Nat.le_of_ble_eq_true rfl⟩) hK hE hW hS (hs_ix9 hf) (ci := cFi) (r := (RX0, TX0, 11)) rfl rfl rfl rfl hl.1 (Nat.le_of_ble_eq_true rfl) dX0_draw_17 ⟨Nat.zero_le _, Nat.zero_le _⟩ rfl (fun r_ τ_ H locs hp hW hS => ?_)
    obtain ⟨rfl, rfl⟩ := hp
    refine lv_imul hx hb dX0_draw_20 ?_
    refine lv_bipush (v := 100) hx hb dX0_draw_21 (by decide) ?_
    refine lv_idiv hx hb dX0_draw_23 (by decide) ?_
    refine lv_goto (tgt := 28) hx hb dX0_draw_24 (by decide) ?_
    exact W.iret (v := ((σ 5 ((σ 9 f 0).toNatClampNeg) 0) * (sp_likeness σ f)) / 100) hx hb hr (fun t ht hW9 => ⟨⟨(((σ 5 ((σ 9 f 0).toNatClampNeg) 0) * (sp_likeness σ f)) / 100), σ, rfl, ⟨by first | (simp only [sp_draw, c_4, eq_self, ↓reduceIte]; done) | (simp [sp_draw, c_4]; done), rfl⟩, ⟨by rw [ht]; exact hW, va_K.moved hW9.alike hK⟩⟩, hS.F ht⟩) hS.2.2 dX0_draw_28
