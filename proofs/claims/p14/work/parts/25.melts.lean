/-! WHAT WOULD MELT: the trial house -/
theorem sp_cpFs_in (σ σ2 : hs_St) (f j : Nat) : ∀ n, sp_cpFs σ σ2 n 9 f j = if f < n then (if j = 0 then nI (σ2 9 f 0).toNatClampNeg else if j = 1 then nI (σ2 9 f 1).toNatClampNeg else if j ≤ 10 then σ2 9 f j else σ 9 f j) else σ 9 f j
  | 0 => by rw [if_neg (Nat.not_lt_zero _)]; rfl
  | n + 1 => by
    have ih := sp_cpFs_in σ σ2 f j n
    simp only [sp_cpFs, sp_cpF, hs_sg]
    by_cases e : f = n
    · subst e
      rw [if_neg (Nat.lt_irrefl _)] at ih
      rw [if_pos (Nat.lt_succ_self _)]
      rcases (show j = 0 ∨ j = 1 ∨ j = 2 ∨ j = 3 ∨ j = 4 ∨ j = 5 ∨ j = 6 ∨ j = 7 ∨ j = 8 ∨ j = 9 ∨ j = 10 ∨ 10 < j by omega) with h | h | h | h | h | h | h | h | h | h | h | h
      all_goals first | (subst h; simp; done) | skip
      rw [if_neg (by omega), if_neg (by omega), if_neg (by omega), if_neg (by omega), if_neg (by omega), if_neg (by omega), if_neg (by omega), if_neg (by omega), if_neg (by omega), if_neg (by omega), if_neg (by omega), ih, if_neg (by omega), if_neg (by omega), if_neg (by omega)]
    · rw [if_neg (by omega), if_neg (by omega), if_neg (by omega), if_neg (by omega), if_neg (by omega), if_neg (by omega), if_neg (by omega), if_neg (by omega), if_neg (by omega), if_neg (by omega), if_neg (by omega), ih]
      by_cases h : f < n
      · rw [if_pos h, if_pos (show f < n + 1 by omega)]
      · rw [if_neg h, if_neg (show ¬ f < n + 1 by omega)]
theorem sp_copy_9 (σ σ2 : hs_St) (P F R f j : Nat) : sp_copy σ σ2 P F R 9 f j = if f < F then (if j = 0 then nI (σ2 9 f 0).toNatClampNeg else if j = 1 then nI (σ2 9 f 1).toNatClampNeg else if j ≤ 10 then σ2 9 f j else σ 9 f j) else σ 9 f j := by
  have h : sp_cpPs (sp_cpH σ σ2) σ2 P 9 f j = σ 9 f j := by
    rw [sp_cpPs_off _ _ _ _ _ (by omega)]
    simp [sp_cpH, hs_sg]
  unfold sp_copy
  rw [sp_cpRs_off _ _ _ _ _ (by omega), sp_cpFs_in, h]
theorem sp_copy_0 (σ σ2 : hs_St) (P F R j : Nat) (h3 : 3 ≤ j) (h10 : j ≤ 10) : sp_copy σ σ2 P F R 0 0 j = σ2 0 0 j := by
  unfold sp_copy
  rw [sp_cpRs_off _ _ _ _ _ (by omega), sp_cpFs_off _ _ _ _ _ (by omega), sp_cpPs_off _ _ _ _ _ (by omega)]
  rcases (show j = 3 ∨ j = 4 ∨ j = 5 ∨ j = 6 ∨ j = 7 ∨ j = 8 ∨ j = 9 ∨ j = 10 by omega) with h | h | h | h | h | h | h | h
  all_goals (subst h; simp [sp_cpH, hs_sg])
theorem sp_copy_ok {σ σ2 : hs_St} {P F R P2 F2 R2 : Nat} (h2 : hs_ok P2 F2 R2 σ) (hR : R2 ≤ R) (h : hs_ok P F R σ2) : hs_ok P F R (sp_copy σ σ2 P F R) := by
  refine ⟨h.1, h.2.1, h.2.2.1, (sp_copy_0 _ _ _ _ _ 3 (by decide) (by decide)).trans h.hP, (sp_copy_0 _ _ _ _ _ 4 (by decide) (by decide)).trans h.hF, (sp_copy_0 _ _ _ _ _ 5 (by decide) (by decide)).trans h.hR, fun f hf => ?_⟩
  obtain ⟨a1, a2, a3⟩ := h.2.2.2.2.2.2 f hf
  obtain ⟨b1, b2, b3⟩ := h2.2.2.2.2.2.2 f hf
  simp only [sp_copy_9]
  by_cases e : f < F
  · simp only [if_pos e, if_true, Nat.one_ne_zero, if_false, (by decide : ¬ (2 = 0)), (by decide : ¬ (2 = 1)), (by decide : 2 ≤ 10), (by decide : ¬ (7 = 0)), (by decide : ¬ (7 = 1)), (by decide : 7 ≤ 10)]
    exact ⟨⟨by rw [nI_clamp (by omega)]; exact a1.1, by rw [nI_clamp (by omega)]; exact a1.2⟩, a2, a3⟩
  · simp only [if_neg e]
    refine ⟨b1, b2, ?_⟩
    rcases b3 with b | b | ⟨r, hr, b⟩
    · exact Or.inl b
    · exact Or.inr (Or.inl b)
    · exact Or.inr (Or.inr ⟨r, by omega, b⟩)
/-- the day of melting, from n days on; the trial's state then -/
def sp_td (τ0 : hs_St) (P F f : Nat) (x z : Int32) : Nat → Nat → Int32 × hs_St
  | 0, n => (-1, (sp_pass τ0 P F x z n).2)
  | k + 1, n => if (sp_pass τ0 P F x z (n + 1)).2 9 f 7 = 7 then (nI (n + 1), (sp_pass τ0 P F x z (n + 1)).2) else sp_td τ0 P F f x z k (n + 1)
def sp_mIn (σ σ2 : hs_St) (P F R f : Nat) (x z : Int32) : Int32 × hs_St := if sp_isShown σ f = 0 then (-1, σ2) else sp_td (sp_copy σ2 σ P F R) P F f x z 60 0
set_option maxHeartbeats 4000000 in
set_option maxRecDepth 100000 in
/-- meltsIn: the loop at 59 -/
theorem lkX4_meltsIn (l : Launch) (D : va_G) (d : hs_Dm) (L : hs_Lo) (σ : hs_St) (A : Nat → Prop) (w : Nat) (L2 : hs_Lo) (A2 : Nat → Prop) (hdis : ∀ q, A2 q → ¬ A q) (hwB : ¬ tw_A A A2 w) (P F R : Nat) (hok : hs_ok P F R σ) (f : Nat) (hf : f < F) (x z : Int32) (τ0 : hs_St) (hok3 : hs_ok P F R τ0) (Y : Int32 × hs_St) {p : Program} {e : Env} {s : State} {m : MethodId} {args : Array Value} {below : List Frame} {meth : Method} {c : Code} (hx : p.tables.exec = Jvm.exec) (hb : c.code = cX4_meltsIn) (hr : meth.sig.returnType = (some .int)) (hts : ∀ w ∈ wsX4_meltsIn, w.before args s = true) (hown : s.vm.findClass RX4 = some m.cls) (hlocks : meth.locks = false) (hml : c.maxLocals = 7) (hK : va_K D vwCl (hs_ty d) s) (hX : hx_E d.2.2.2.2 (tw_A A A2) s) (hV : va_at D vwCl (w, .inr (cWx, [.ref (L 0 0), .ref (L2 0 0)])) s.heap) : ∀ (k n : Nat), n + k = 60 → sp_td τ0 P F f x z k n = Y → ∀ (H : Heap) (locs : List Loc), hs_W D d L σ A H → hs_W D d L2 ((sp_pass τ0 P F x z n).2) A2 H → va_S (tw_A A A2) s.heap H locs → ∀ ls : Array Slot, lv_has ls 7 [(0, .ref w), (1, .int (nI f)), (2, .int x), (3, .int z), (5, .ref (L2 9 f)), (6, .int (nI (n + 1)))] → W p l e (({ frames := 6, cells := 0, slots := 0, locals := 140 }) : Room) s m args below meth c H locs 0 0 (MQ below (va_Qi (fun r τ => Y = (r, τ)) (fun τ t => tw_B D d L σ A L2 τ A2 t) (tw_A A A2)) args s 0 0 (tw_A A A2)) (F0 m 59 ls []) := by
  intro k
  induction k with
  | zero =>
    intro n hn hX9 H locs hW hW2 hS ls hl
    have hE := hX.1
    have hwA : ¬ A w := fun q => hwB (Or.inl q)
    have hAB : ∀ q, A q → tw_A A A2 q := fun q h => Or.inl h
    have hAB2 : ∀ q, A2 q → tw_A A A2 q := fun q h => Or.inr h
    have hdis2 : ∀ q, A q → ¬ A2 q := fun q h h2 => hdis q h2 h
    have h10 := hok.1
    have h8 := hok.2.1
    have h5 := hok.2.2.1
    have hnN : n = 60 := by omega
    refine lv_iload hx hb dX4_meltsIn_59 (lv_at hl 5 rfl) ?_
    refine lv_bipush (v := 60) hx hb dX4_meltsIn_61 (by decide) ?_
    refine lv_icmp_gt (tgt := 95) hx hb dX4_meltsIn_63 (by decide) (fun c_63 => ?_) (fun c_63 => ?_)
    · refine lv_iconst (v := (-1)) hx hb dX4_meltsIn_95 (by decide) ?_
      exact W.iret (v := (-1)) hx hb hr (fun t ht hW9 => ⟨⟨(-1), ((sp_pass τ0 P F x z n).2), rfl, (by rw [← hX9]; rfl), by rw [ht]; exact hW, by rw [ht]; exact hW2, va_K.moved hW9.alike hK⟩, hS.F ht⟩) hS.2.2 dX4_meltsIn_96
    · exact absurd (by rw [hnN]; decide +kernel) c_63
  | succ k ih =>
    intro n hn hX9 H locs hW hW2 hS ls hl
    have hE := hX.1
    have hwA : ¬ A w := fun q => hwB (Or.inl q)
    have hAB : ∀ q, A q → tw_A A A2 q := fun q h => Or.inl h
    have hAB2 : ∀ q, A2 q → tw_A A A2 q := fun q h => Or.inr h
    have hdis2 : ∀ q, A q → ¬ A2 q := fun q h h2 => hdis q h2 h
    have h10 := hok.1
    have h8 := hok.2.1
    have h5 := hok.2.2.1
    have hnN : n < 60 := by omega
    refine lv_iload hx hb dX4_meltsIn_59 (lv_at hl 5 rfl) ?_
    refine lv_bipush (v := 60) hx hb dX4_meltsIn_61 (by decide) ?_
    refine lv_icmp_gt (tgt := 95) hx hb dX4_meltsIn_63 (by decide) (fun c_63 => ?_) (fun c_63 => ?_)
    · exact absurd c_63 (by rw [show (60 : Int32) = nI 60 from by decide +kernel]; exact nI_nlt (by omega) (by omega))
    · refine lv_aload_n hx hb dX4_meltsIn_66 rfl (lv_at hl 0 rfl) ?_
      refine va_get (D := D) (ci := cWx) (C := RX4) (T := TX4) (N := 2) (ws := [(w, .inr (cWx, [.ref (L 0 0), .ref (L2 0 0)]))]) (v := .ref (L2 0 0)) hx hb hts (by decide +kernel) hown hK (wx_one hV hS hwB) 0 rfl rfl 1 (by decide) (hts (.fieldLink RX4 16 "Waxrow" "trial" "LWaxrow$House;") (by decide +kernel)) (fun _ h9 => h9) rfl dX4_meltsIn_67 ?_
      refine lv_iload_n hx hb dX4_meltsIn_70 rfl (lv_at hl 2 rfl) ?_
      refine lv_iload_n hx hb dX4_meltsIn_71 rfl (lv_at hl 3 rfl) ?_
      refine tw_calli (As := [.int x, .int z]) ⟨hx, hb, hml, hown, hts⟩ (kX1_passDay l D d L2 ((sp_pass τ0 P F x z n).2) A2 P F R (sp_pass_ok x z hok3 n) x z) (cwV 2 hts gX4_meltsIn_X1_passDay rfl rfl rfl (by decide +kernel) ⟨Nat.le_of_ble_eq_true rfl, Nat.le_of_ble_eq_true rfl⟩) hK hE hW2 hW hAB2 hdis2 hS hs_ix0 (ci := cHo) (r := (RX1, TX1, 11)) rfl rfl rfl rfl hl.1 (Nat.le_of_ble_eq_true rfl) dX4_meltsIn_72 ⟨Nat.zero_le _, Nat.zero_le _⟩ rfl (fun r_ τ_ H locs hp hW2 hW hS => ?_)
      obtain ⟨rfl, rfl⟩ := hp
      refine lv_pop hx hb dX4_meltsIn_75 rfl ?_
      refine lv_aload hx hb dX4_meltsIn_76 (lv_at hl 4 rfl) ?_
      refine va_get (D := D) (ci := cFi) (C := RX0) (T := TX0) (N := 11) (ws := [(L2 9 f, hs_ct d L2 ((sp_pass τ0 P F x z (n + 1)).2) 9 f)]) (v := .int (((sp_pass τ0 P F x z (n + 1)).2) 9 f 7)) hx hb hts (by decide +kernel) hown hK (hW2.one (hs_ix9 (show f < 8 by omega))) 0 rfl rfl 7 (by decide) (hts (.fieldLink RX4 110 "Waxrow$Figure" "place" "I") (by decide +kernel)) (fun _ h9 => h9) rfl dX4_meltsIn_78 ?_
      refine lv_bipush (v := 7) hx hb dX4_meltsIn_81 (by decide) ?_
      refine lv_icmp_ne (tgt := 89) hx hb dX4_meltsIn_83 (by decide) (fun c_83 => ?_) (fun c_83 => ?_)
      · refine lv_iinc (v := nI (n + 1 + 1)) (lv' := [(6, .int (nI (n + 1 + 1))), (0, .ref w), (1, .int (nI f)), (2, .int x), (3, .int z), (5, .ref (L2 9 f))]) hx hb dX4_meltsIn_89 hl (k := 5) rfl (nI_succ _).symm (by decide) rfl (fun ls hl => ?_)
        refine lv_goto (tgt := 59) hx hb dX4_meltsIn_92 (by decide) ?_
        exact ih (n + 1) (by omega) (by rw [← hX9]; show _ = sp_td τ0 P F f x z (k + 1) n; rw [sp_td, if_neg c_83]) _ _ hW hW2 hS ls (lv_sub hl [1, 2, 3, 4, 5, 0] rfl)
      · refine lv_iload hx hb dX4_meltsIn_86 (lv_at hl 5 rfl) ?_
        exact W.iret (v := nI (n + 1)) hx hb hr (fun t ht hW9 => ⟨⟨(nI (n + 1)), ((sp_pass τ0 P F x z (n + 1)).2), rfl, (by rw [← hX9]; show sp_td τ0 P F f x z (k + 1) n = _; rw [sp_td, if_pos c_83]), by rw [ht]; exact hW, by rw [ht]; exact hW2, va_K.moved hW9.alike hK⟩, hS.F ht⟩) hS.2.2 dX4_meltsIn_88
set_option maxHeartbeats 4000000 in
set_option maxRecDepth 100000 in
/-- meltsIn -/
theorem kX4_meltsIn (l : Launch) (D : va_G) (d : hs_Dm) (L : hs_Lo) (σ : hs_St) (A : Nat → Prop) (w : Nat) (L2 : hs_Lo) (A2 : Nat → Prop) (hdis : ∀ q, A2 q → ¬ A q) (hwB : ¬ tw_A A A2 w) (P F R : Nat) (hok : hs_ok P F R σ) (σ2 : hs_St) (f : Nat) (hf : f < F) (x z : Int32) (hx0 : ¬ x < 0) (hx9 : x ≤ 2000) (hz0 : ¬ z < 0) (hz9 : z ≤ 40) (hliv : ∀ f, f < F → (σ 9 f 0).toNatClampNeg < P ∧ (σ 9 f 1).toNatClampNeg < P) (hcb : ∀ q, q < 10 → σ 4 q 5 = 0 ∨ σ 4 q 5 = 1) {P2 F2 R2 : Nat} (hok2 : hs_ok P2 F2 R2 σ2) (hR2 : R2 ≤ R) : tw_Mi l yX4_meltsIn wsX4_meltsIn ({ frames := 6, cells := 0, slots := 0, locals := 140 }) D d w L σ A L2 σ2 A2 [.ref w, .int (nI f), .int x, .int z] (fun r τ => sp_mIn σ σ2 P F R f x z = (r, τ)) := by
  refine Met.ofW (cc := cX4_meltsIn) (maxL := 7) (ret := (some .int)) (by decide) rfl ?_
  intro p e s m args below meth c s₁ B hml hv
  obtain ⟨rfl, ⟨hW, hW2, hK⟩, hX, hV⟩ := hv
  have hx := B.exec
  have hb := B.bytes
  have hr := B.returns
  have hts := atoms_spec (ws := wsX4_meltsIn) B.pre
  have hown : s.vm.findClass RX4 = some m.cls := findClass_of_methodNamed B.named
  have hlocks := B.notSynchronized
  have hS : va_S (tw_A A A2) s.heap s.heap [] := va_S.rf
  have hE := hX.1
  have hwA : ¬ A w := fun q => hwB (Or.inl q)
  have hAB : ∀ q, A q → tw_A A A2 q := fun q h => Or.inl h
  have hAB2 : ∀ q, A2 q → tw_A A A2 q := fun q h => Or.inr h
  have hdis2 : ∀ q, A q → ¬ A2 q := fun q h h2 => hdis q h2 h
  have h10 := hok.1
  have h8 := hok.2.1
  have h5 := hok.2.2.1
  have hl := lv_entry ([.ref w, .int (nI f), .int x, .int z]) (n := 7) (Nat.le_of_ble_eq_true rfl)
  rw [lg_entry_eq]
  generalize (lg_sl ([.ref w, .int (nI f), .int x, .int z]) ++ List.replicate (7 - (lg_sl ([.ref w, .int (nI f), .int x, .int z])).length) Slot.unset).toArray = ls at hl ⊢
  have hl : lv_has ls 7 [(0, .ref w), (1, .int (nI f)), (2, .int x), (3, .int z)] := hl
  refine lv_aload_n hx hb dX4_meltsIn_0 rfl (lv_at hl 0 rfl) ?_
  refine va_get (D := D) (ci := cWx) (C := RX4) (T := TX4) (N := 2) (ws := [(w, .inr (cWx, [.ref (L 0 0), .ref (L2 0 0)]))]) (v := .ref (L 0 0)) hx hb hts (by decide +kernel) hown hK (wx_one hV hS hwB) 0 rfl rfl 0 (by decide) (hts (.fieldLink RX4 10 "Waxrow" "house" "LWaxrow$House;") (by decide +kernel)) (fun _ h9 => h9) rfl dX4_meltsIn_1 ?_
  refine lv_iload_n hx hb dX4_meltsIn_4 rfl (lv_at hl 1 rfl) ?_
  refine tw_callr (As := [.int (nI f)]) ⟨hx, hb, hml, hown, hts⟩ (kX1_figureAt l D d L σ A f F hok.hF hf hok.2.1) (cwV 1 hts gX4_meltsIn_X1_figureAt rfl rfl rfl (by decide +kernel) ⟨Nat.le_of_ble_eq_true rfl, Nat.le_of_ble_eq_true rfl⟩) hK hE hW hW2 hAB hdis hS hs_ix0 (ci := cHo) (r := (RX1, TX1, 11)) rfl rfl rfl rfl hl.1 (Nat.le_of_ble_eq_true rfl) dX4_meltsIn_5 ⟨Nat.zero_le _, Nat.zero_le _⟩ rfl (fun H locs hW hW2 hS => ?_)
  refine lv_astore (lv' := [(4, .ref (L 9 f)), (0, .ref w), (1, .int (nI f)), (2, .int x), (3, .int z)]) hx hb dX4_meltsIn_8 hl (by decide) rfl (fun ls hl => ?_)
  refine lv_iload_n hx hb dX4_meltsIn_10 rfl (lv_at hl 3 rfl) ?_
  refine lv_iconst (v := 0) hx hb dX4_meltsIn_11 (by decide) ?_
  refine lv_sipush (v := 2000) hx hb dX4_meltsIn_12 (by decide) ?_
  refine tw_runv (As := [.int x, .int 0, .int 2000]) ⟨hx, hb, hml, hown, hts⟩ (kX4_checkArgument l D d L σ A x 0 2000 hx0 hx9) (va_cwS 3 hts gX4_meltsIn_X4_checkArgument rfl rfl rfl (by decide +kernel) ⟨Nat.le_of_ble_eq_true rfl, Nat.le_of_ble_eq_true rfl⟩) hK hE hW hW2 hAB hdis hS rfl hl.1 (Nat.le_of_ble_eq_true rfl) dX4_meltsIn_15 ⟨Nat.zero_le _, Nat.zero_le _⟩ rfl (fun τ_ H locs hp hW hW2 hS => ?_)
  obtain rfl := hp
  refine lv_iload_n hx hb dX4_meltsIn_18 rfl (lv_at hl 4 rfl) ?_
  refine lv_iconst (v := 0) hx hb dX4_meltsIn_19 (by decide) ?_
  refine lv_bipush (v := 40) hx hb dX4_meltsIn_20 (by decide) ?_
  refine tw_runv (As := [.int z, .int 0, .int 40]) ⟨hx, hb, hml, hown, hts⟩ (kX4_checkArgument l D d L σ A z 0 40 hz0 hz9) (va_cwS 3 hts gX4_meltsIn_X4_checkArgument rfl rfl rfl (by decide +kernel) ⟨Nat.le_of_ble_eq_true rfl, Nat.le_of_ble_eq_true rfl⟩) hK hE hW hW2 hAB hdis hS rfl hl.1 (Nat.le_of_ble_eq_true rfl) dX4_meltsIn_22 ⟨Nat.zero_le _, Nat.zero_le _⟩ rfl (fun τ_ H locs hp hW hW2 hS => ?_)
  obtain rfl := hp
  refine lv_aload hx hb dX4_meltsIn_25 (lv_at hl 0 rfl) ?_
  refine tw_calli (As := []) ⟨hx, hb, hml, hown, hts⟩ (kX0_isShown l D d L σ A f (show f < 8 by omega)) (cwV 0 hts gX4_meltsIn_X0_isShown rfl rfl rfl (by decide +kernel) ⟨Nat.le_of_ble_eq_true rfl, Nat.le_of_ble_eq_true rfl⟩) hK hE hW hW2 hAB hdis hS (hs_ix9 (show f < 8 by omega)) (ci := cFi) (r := (RX0, TX0, 11)) rfl rfl rfl rfl hl.1 (Nat.le_of_ble_eq_true rfl) dX4_meltsIn_27 ⟨Nat.zero_le _, Nat.zero_le _⟩ rfl (fun r_ τ_ H locs hp hW hW2 hS => ?_)
  obtain ⟨rfl, rfl⟩ := hp
  refine lv_if_ne (tgt := 35) hx hb dX4_meltsIn_30 (by decide) (fun c_30 => ?_) (fun c_30 => ?_)
  · refine lv_aload_n hx hb dX4_meltsIn_35 rfl (lv_at hl 1 rfl) ?_
    refine va_get (D := D) (ci := cWx) (C := RX4) (T := TX4) (N := 2) (ws := [(w, .inr (cWx, [.ref (L 0 0), .ref (L2 0 0)]))]) (v := .ref (L2 0 0)) hx hb hts (by decide +kernel) hown hK (wx_one hV hS hwB) 0 rfl rfl 1 (by decide) (hts (.fieldLink RX4 16 "Waxrow" "trial" "LWaxrow$House;") (by decide +kernel)) (fun _ h9 => h9) rfl dX4_meltsIn_36 ?_
    refine lv_aload_n hx hb dX4_meltsIn_39 rfl (lv_at hl 1 rfl) ?_
    refine va_get (D := D) (ci := cWx) (C := RX4) (T := TX4) (N := 2) (ws := [(w, .inr (cWx, [.ref (L 0 0), .ref (L2 0 0)]))]) (v := .ref (L 0 0)) hx hb hts (by decide +kernel) hown hK (wx_one hV hS hwB) 0 rfl rfl 0 (by decide) (hts (.fieldLink RX4 10 "Waxrow" "house" "LWaxrow$House;") (by decide +kernel)) (fun _ h9 => h9) rfl dX4_meltsIn_40 ?_
    refine tw_callv2 (As := [.ref (L 0 0)]) ⟨hx, hb, hml, hown, hts⟩ (kX1_copyFrom l D d L2 σ2 A2 L σ A hdis2 P F R hok hliv hcb) (cwV 1 hts gX4_meltsIn_X1_copyFrom rfl rfl rfl (by decide +kernel) ⟨Nat.le_of_ble_eq_true rfl, Nat.le_of_ble_eq_true rfl⟩) hK hE hW2 hW hAB2 hdis2 hS hs_ix0 (ci := cHo) (r := (RX1, TX1, 11)) rfl rfl rfl rfl hl.1 (Nat.le_of_ble_eq_true rfl) dX4_meltsIn_43 ⟨Nat.zero_le _, Nat.zero_le _⟩ rfl (fun τ_ H locs hp hW2 hW hS => ?_)
    obtain rfl := hp
    have hok3 := sp_copy_ok hok2 hR2 hok
    refine lv_aload_n hx hb dX4_meltsIn_46 rfl (lv_at hl 1 rfl) ?_
    refine va_get (D := D) (ci := cWx) (C := RX4) (T := TX4) (N := 2) (ws := [(w, .inr (cWx, [.ref (L 0 0), .ref (L2 0 0)]))]) (v := .ref (L2 0 0)) hx hb hts (by decide +kernel) hown hK (wx_one hV hS hwB) 0 rfl rfl 1 (by decide) (hts (.fieldLink RX4 16 "Waxrow" "trial" "LWaxrow$House;") (by decide +kernel)) (fun _ h9 => h9) rfl dX4_meltsIn_47 ?_
    refine lv_iload_n hx hb dX4_meltsIn_50 rfl (lv_at hl 2 rfl) ?_
    refine tw_callr (As := [.int (nI f)]) ⟨hx, hb, hml, hown, hts⟩ (kX1_figureAt l D d L2 (sp_copy σ2 σ P F R) A2 f F hok3.hF hf hok.2.1) (cwV 1 hts gX4_meltsIn_X1_figureAt rfl rfl rfl (by decide +kernel) ⟨Nat.le_of_ble_eq_true rfl, Nat.le_of_ble_eq_true rfl⟩) hK hE hW2 hW hAB2 hdis2 hS hs_ix0 (ci := cHo) (r := (RX1, TX1, 11)) rfl rfl rfl rfl hl.1 (Nat.le_of_ble_eq_true rfl) dX4_meltsIn_51 ⟨Nat.zero_le _, Nat.zero_le _⟩ rfl (fun H locs hW2 hW hS => ?_)
    refine lv_astore (lv' := [(5, .ref (L2 9 f)), (4, .ref (L 9 f)), (0, .ref w), (1, .int (nI f)), (2, .int x), (3, .int z)]) hx hb dX4_meltsIn_54 hl (by decide) rfl (fun ls hl => ?_)
    refine lv_iconst (v := 1) hx hb dX4_meltsIn_56 (by decide) ?_
    refine lv_istore (lv' := [(6, .int 1), (5, .ref (L2 9 f)), (4, .ref (L 9 f)), (0, .ref w), (1, .int (nI f)), (2, .int x), (3, .int z)]) hx hb dX4_meltsIn_57 hl (by decide) rfl (fun ls hl => ?_)
    have e9 : sp_mIn σ σ2 P F R f x z = sp_td (sp_copy σ2 σ P F R) P F f x z 60 0 := by rw [sp_mIn, if_neg c_30]
    rw [e9]
    exact lkX4_meltsIn l D d L σ A w L2 A2 hdis hwB P F R hok f hf x z (sp_copy σ2 σ P F R) (sp_copy_ok hok2 hR2 hok) _ hx hb hr hts hown hlocks hml hK hX hV 60 0 (by omega) rfl _ _ hW hW2 hS ls (lv_sub hl [3, 4, 5, 6, 1, 0] rfl)
  · refine lv_iconst (v := (-1)) hx hb dX4_meltsIn_33 (by decide) ?_
    exact W.iret (v := (-1)) hx hb hr (fun t ht hW9 => ⟨⟨(-1), σ2, rfl, (by rw [sp_mIn, if_pos c_30]), by rw [ht]; exact hW, by rw [ht]; exact hW2, va_K.moved hW9.alike hK⟩, hS.F ht⟩) hS.2.2 dX4_meltsIn_34
