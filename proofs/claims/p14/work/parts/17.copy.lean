/-! TWO HOUSES: one is written, the other is read -/
def hs_C2 (D : va_G) (d : hs_Dm) (L : hs_Lo) (σ : hs_St) (A : Nat → Prop) (L2 : hs_Lo) (σ2 : hs_St) (A2 : Nat → Prop) (U : State) : Prop := hs_C D d L σ A U ∧ hs_W D d L2 σ2 A2 U.heap
theorem hs_blind2 {D : va_G} {d : hs_Dm} {L : hs_Lo} {σ : hs_St} {A : Nat → Prop} {L2 : hs_Lo} {σ2 : hs_St} {A2 : Nat → Prop} {av : List Value} : FrameBlind (va_Pc av (hs_C2 D d L σ A L2 σ2 A2)) := fun a U g mk q => by
  obtain ⟨q0, q1, q2⟩ := q
  exact ⟨q0, (hs_blind (av := av) a U g mk ⟨q0, q1⟩).2, q2⟩
abbrev hs_M2v (l : Launch) (y : MethodName) (ws : List Cond) (rm : Room) (D : va_G) (d : hs_Dm) (L : hs_Lo) (σ : hs_St) (A : Nat → Prop) (L2 : hs_Lo) (σ2 : hs_St) (A2 : Nat → Prop) (av : List Value) (post : hs_St → Prop) : Prop := Met l y ws rm (va_Pc av (hs_C2 D d L σ A L2 σ2 A2)) (va_Qv post (fun τ t => hs_B D d L τ A t) A) 0 0 A
theorem hs_callv2 {p : Program} {l : Launch} {e : Env} {R : Room} {s : State} {m : MethodId} {args : Array Value} {below : List Frame} {meth : Method} {c : Code} {H : Heap} {locs : List Loc} {cells slots : Nat} {Q : State → Prop} {cc : ByteArray} {pc : Nat} {ls : Array Slot} {rest : List Value} {D : va_G} {d : hs_Dm} {L : hs_Lo} {σ : hs_St} {A : Nat → Prop} {L2 : hs_Lo} {σ2 : hs_St} {A2 : Nat → Prop} {y : MethodName} {bytes : ByteArray} {maxL nL n index : Nat} {ret : Option FieldType} {ws : List Cond} {rm : Room} {Ts : List Cond} {own C : String} {As st : List Value} {k i : Nat} {post : hs_St → Prop} (S : CallFix p m c cc nL s args Ts own) (hM : hs_M2v l y ws rm D d L σ A L2 σ2 A2 (.ref (L k i) :: As) post) (cw : CallW R s args own C index y bytes maxL ret ws rm 0 0 n) (hW2 : hs_W D d L2 σ2 A2 s.heap) (hdis : ∀ q, A2 q → ¬ A q) (hK : va_K D vwCl (hs_ty d) s) (hE : hs_E d.2.2.2.2 A s) (hW : hs_W D d L σ A H) (hS : va_S A s.heap H locs) (hx : hs_ix k i) {ci : Nat} {fs : List Value} {r : vw_C} (he : hs_ct d L σ k i = .inr (ci, fs)) (hc : vwCl[ci]? = some r) (hC : r.1 = C) (hn : As.length = n) (hsize : ls.size = nL) (hrest : (rest.map fun v => v.category).sum ≤ 8) (hdg : decode cc pc = .ok (.invokevirtual index, 3)) (hf : cells ≤ R.cells ∧ slots ≤ R.slots) (hst : st = As.reverse ++ .ref (L k i) :: rest)
    (kk : ∀ (τ : hs_St) (H1 : Heap) (locs1 : List Loc), post τ → hs_W D d L τ A H1 → va_S A s.heap H1 locs1 → W p l e R s m args below meth c H1 locs1 cells slots Q (F0 m (pc + 3) ls rest)) : W p l e R s m args below meth c H locs cells slots Q (F0 m pc ls st) := by
  subst hst
  subst hC
  refine va_callv (va_runV S hM cw ⟨hs_blind2, va_recv hK (hW.one hx) (q0 := 0) hc (by rw [he]; rfl), fun U hU hW3 => ⟨rfl, ⟨⟨by rw [hU]; exact hW, va_K.moved hW3.alike hK⟩, hE.on hW3 hU hS⟩, by rw [hU]; exact hs_W.kept hW2 (fun q h1 h2 => hS.2.1 q h1 (hdis q h2))⟩⟩ rfl hn hsize rfl (lv_room hrest) hdg hf) hS (fun q _ h => h) (fun q h => h) (fun τ t H1 locs1 ht _ hp hB _ _ hS1 => ?_)
  obtain ⟨hW1, -⟩ := hB
  rw [ht] at hW1
  exact kk τ H1 locs1 hp hW1 hS1
theorem sp_nb {b : Int32} (h : b = 0 ∨ b = 1) : narrow .boolean (.int b) = .int b := by
  rcases h with rfl | rfl <;> rfl
theorem sp_fb {b : Int32} (h : b = 0 ∨ b = 1) : fits .boolean (.int b) = true := by
  rcases h with rfl | rfl <;> rfl
/-- a person's rows copied: three lands, then six measures, then the rest -/
def sp_cp1 (σ σ2 : hs_St) (q : Nat) : Nat → hs_St
  | 0 => σ
  | n + 1 => hs_sg (hs_sg (sp_cp1 σ σ2 q n) 5 q n (σ2 5 q n)) 6 q n (σ2 6 q n)
def sp_cp2 (σ σ2 : hs_St) (q : Nat) : Nat → hs_St
  | 0 => σ
  | n + 1 => hs_sg (hs_sg (sp_cp2 σ σ2 q n) 7 q n (σ2 7 q n)) 8 q n (σ2 8 q n)
def sp_cpP (σ σ2 : hs_St) (q : Nat) : hs_St := hs_sg (hs_sg (hs_sg (sp_cp2 (sp_cp1 σ σ2 q 3) σ2 q 6) 4 q 5 (σ2 4 q 5)) 4 q 6 (σ2 4 q 6)) 4 q 7 (σ2 4 q 7)
def sp_cpF (σ σ2 : hs_St) (f x y : Nat) : hs_St := hs_sg (hs_sg (hs_sg (hs_sg (hs_sg (hs_sg (hs_sg (hs_sg (hs_sg (hs_sg (hs_sg σ 9 f 0 (nI x)) 9 f 1 (nI y)) 9 f 2 (σ2 9 f 2)) 9 f 3 (σ2 9 f 3)) 9 f 4 (σ2 9 f 4)) 9 f 5 (σ2 9 f 5)) 9 f 6 (σ2 9 f 6)) 9 f 7 (σ2 9 f 7)) 9 f 8 (σ2 9 f 8)) 9 f 9 (σ2 9 f 9)) 9 f 10 (σ2 9 f 10)
def sp_cpH (σ σ2 : hs_St) : hs_St := hs_sg (hs_sg (hs_sg (hs_sg (hs_sg (hs_sg (hs_sg (hs_sg σ 0 0 3 (σ2 0 0 3)) 0 0 4 (σ2 0 0 4)) 0 0 5 (σ2 0 0 5)) 0 0 6 (σ2 0 0 6)) 0 0 7 (σ2 0 0 7)) 0 0 8 (σ2 0 0 8)) 0 0 9 (σ2 0 0 9)) 0 0 10 (σ2 0 0 10)
def sp_cpPs (σ σ2 : hs_St) : Nat → hs_St
  | 0 => σ
  | n + 1 => sp_cpP (sp_cpPs σ σ2 n) σ2 n
def sp_cpFs (σ σ2 : hs_St) : Nat → hs_St
  | 0 => σ
  | n + 1 => sp_cpF (sp_cpFs σ σ2 n) σ2 n (σ2 9 n 0).toNatClampNeg (σ2 9 n 1).toNatClampNeg
def sp_cpRs (σ σ2 : hs_St) : Nat → hs_St
  | 0 => σ
  | n + 1 => hs_sg (hs_sg (sp_cpRs σ σ2 n) 10 n 0 (σ2 10 n 0)) 10 n 1 (σ2 10 n 1)
def sp_copy (σ σ2 : hs_St) (P F R : Nat) : hs_St := sp_cpRs (sp_cpFs (sp_cpPs (sp_cpH σ σ2) σ2 P) σ2 F) σ2 R
theorem sp_cp1_off (σ σ2 : hs_St) (q k i j : Nat) (h : k ≠ 5 ∧ k ≠ 6) : ∀ n, sp_cp1 σ σ2 q n k i j = σ k i j
  | 0 => rfl
  | n + 1 => by
    simp only [sp_cp1, hs_sg]
    rw [if_neg (by omega), if_neg (by omega)]
    exact sp_cp1_off σ σ2 q k i j h n
theorem sp_cp2_off (σ σ2 : hs_St) (q k i j : Nat) (h : k ≠ 7 ∧ k ≠ 8) : ∀ n, sp_cp2 σ σ2 q n k i j = σ k i j
  | 0 => rfl
  | n + 1 => by
    simp only [sp_cp2, hs_sg]
    rw [if_neg (by omega), if_neg (by omega)]
    exact sp_cp2_off σ σ2 q k i j h n
theorem sp_cpPs_off (σ σ2 : hs_St) (k i j : Nat) (h : k < 4 ∨ 8 < k) : ∀ n, sp_cpPs σ σ2 n k i j = σ k i j
  | 0 => rfl
  | n + 1 => by
    simp only [sp_cpPs, sp_cpP, hs_sg]
    rw [if_neg (by omega), if_neg (by omega), if_neg (by omega), sp_cp2_off _ _ _ _ _ _ (by omega), sp_cp1_off _ _ _ _ _ _ (by omega)]
    exact sp_cpPs_off σ σ2 k i j h n
theorem sp_cpFs_off (σ σ2 : hs_St) (k i j : Nat) (h : k ≠ 9) : ∀ n, sp_cpFs σ σ2 n k i j = σ k i j
  | 0 => rfl
  | n + 1 => by
    simp only [sp_cpFs, sp_cpF, hs_sg]
    rw [if_neg (by omega), if_neg (by omega), if_neg (by omega), if_neg (by omega), if_neg (by omega), if_neg (by omega), if_neg (by omega), if_neg (by omega), if_neg (by omega), if_neg (by omega), if_neg (by omega)]
    exact sp_cpFs_off σ σ2 k i j h n
theorem sp_cpRs_off (σ σ2 : hs_St) (k i j : Nat) (h : k ≠ 10) : ∀ n, sp_cpRs σ σ2 n k i j = σ k i j
  | 0 => rfl
  | n + 1 => by
    simp only [sp_cpRs, hs_sg]
    rw [if_neg (by omega), if_neg (by omega)]
    exact sp_cpRs_off σ σ2 k i j h n
set_option maxHeartbeats 4000000 in
set_option maxRecDepth 100000 in
/-- Person.copyFrom: the loop at 39 -/
theorem lk2X2_copyFrom (l : Launch) (D : va_G) (d : hs_Dm) (L : hs_Lo) (σ : hs_St) (A : Nat → Prop) (L2 : hs_Lo) (σ2 : hs_St) (A2 : Nat → Prop) (hdis : ∀ q, A2 q → ¬ A q) {p : Program} {e : Env} {s : State} {m : MethodId} {args : Array Value} {below : List Frame} {meth : Method} {c : Code} (q : Nat) (hq : q < 10) (hcb : σ2 4 q 5 = 0 ∨ σ2 4 q 5 = 1)  (hx : p.tables.exec = Jvm.exec) (hb : c.code = cX2_copyFrom) (hr : meth.sig.returnType = none) (hts : ∀ w ∈ wsX2_copyFrom, w.before args s = true) (hown : s.vm.findClass RX2 = some m.cls) (hlocks : meth.locks = false) (hml : c.maxLocals = 3) (hK : va_K D vwCl (hs_ty d) s) (hE : hs_E d.2.2.2.2 A s) (hW2 : hs_W D d L2 σ2 A2 s.heap)  : ∀ (k n : Nat), n + k = 6 → ∀ (H : Heap) (locs : List Loc), hs_W D d L (sp_cp2 (sp_cp1 σ σ2 q 3) σ2 q n) A H → va_S A s.heap H locs → ∀ ls : Array Slot, lv_has ls 3 [(0, .ref (L 4 q)), (1, .ref (L2 4 q)), (2, .int (nI n))] → W p l e ({ frames := 0, cells := 0, slots := 0, locals := 0 } : Room) s m args below meth c H locs 0 0 (MQ below (va_Qv (fun τ => sp_cpP σ σ2 q = τ) (fun τ t => hs_B D d L τ A t) A) args s 0 0 A) (F0 m 39 ls []) := by
  intro k
  induction k with
  | zero =>
    intro n hn H locs hW hS ls hl
    have hnN : n = 6 := by omega
    refine lv_iload_n hx hb dX2_copyFrom_39 rfl (lv_at hl 2 rfl) ?_
    refine lv_bipush (v := 6) hx hb dX2_copyFrom_40 (by decide) ?_
    refine lv_icmp_ge (tgt := 75) hx hb dX2_copyFrom_42 (by decide) (fun c_42 => ?_) (fun c_42 => ?_)
    · rw [hnN] at hW
      refine lv_aload_n hx hb dX2_copyFrom_75 rfl (lv_at hl 0 rfl) ?_
      refine lv_aload_n hx hb dX2_copyFrom_76 rfl (lv_at hl 1 rfl) ?_
      refine va_get (D := D) (ci := cPe) (C := RX2) (T := TX2) (N := 8) (ws := [(L2 4 q, hs_ct d L2 σ2 4 q)]) (v := .int (σ2 4 q 5)) hx hb hts (by decide +kernel) hown hK ((hs_W.kept hW2 (fun q h1 h2 => hS.2.1 q h1 (hdis q h2))).one (hs_ix4 hq)) 0 rfl rfl 5 (by decide) (hts (.fieldLink RX2 28 "Waxrow$Person" "consents" "Z") (by decide +kernel)) (fun _ h9 => h9) rfl dX2_copyFrom_77 ?_
      refine hs_put (ci := cPe) (C := RX2) (T := TX2) (N := 8) (ty := .boolean) hx hb hts (by decide +kernel) tyX2 tyX2_ok nmX2 hown hK hW hS 4 q (hs_ix4 hq) rfl rfl 5 (by decide) (hts (.fieldLink RX2 28 "Waxrow$Person" "consents" "Z") (by decide +kernel)) (fun _ h9 => h9) rfl (by decide +kernel) (sp_nb hcb) (sp_fb hcb) (Nat.le_of_ble_eq_true rfl) (hs_sg (sp_cp2 (sp_cp1 σ σ2 q 3) σ2 q 6) 4 q 5 (σ2 4 q 5)) (by simp [hs_ct, hs_sg]) (hs_off _ _ _ _ _) dX2_copyFrom_80 (fun H locs hW hS => ?_)
      refine lv_aload_n hx hb dX2_copyFrom_83 rfl (lv_at hl 0 rfl) ?_
      refine lv_aload_n hx hb dX2_copyFrom_84 rfl (lv_at hl 1 rfl) ?_
      refine va_get (D := D) (ci := cPe) (C := RX2) (T := TX2) (N := 8) (ws := [(L2 4 q, hs_ct d L2 σ2 4 q)]) (v := .int (σ2 4 q 6)) hx hb hts (by decide +kernel) hown hK ((hs_W.kept hW2 (fun q h1 h2 => hS.2.1 q h1 (hdis q h2))).one (hs_ix4 hq)) 0 rfl rfl 6 (by decide) (hts (.fieldLink RX2 32 "Waxrow$Person" "due" "I") (by decide +kernel)) (fun _ h9 => h9) rfl dX2_copyFrom_85 ?_
      refine hs_put (ci := cPe) (C := RX2) (T := TX2) (N := 8) (ty := .int) hx hb hts (by decide +kernel) tyX2 tyX2_ok nmX2 hown hK hW hS 4 q (hs_ix4 hq) rfl rfl 6 (by decide) (hts (.fieldLink RX2 32 "Waxrow$Person" "due" "I") (by decide +kernel)) (fun _ h9 => h9) rfl (by decide +kernel) rfl rfl (Nat.le_of_ble_eq_true rfl) (hs_sg (hs_sg (sp_cp2 (sp_cp1 σ σ2 q 3) σ2 q 6) 4 q 5 (σ2 4 q 5)) 4 q 6 (σ2 4 q 6)) (by simp [hs_ct, hs_sg]) (hs_off _ _ _ _ _) dX2_copyFrom_88 (fun H locs hW hS => ?_)
      refine lv_aload_n hx hb dX2_copyFrom_91 rfl (lv_at hl 0 rfl) ?_
      refine lv_aload_n hx hb dX2_copyFrom_92 rfl (lv_at hl 1 rfl) ?_
      refine va_get (D := D) (ci := cPe) (C := RX2) (T := TX2) (N := 8) (ws := [(L2 4 q, hs_ct d L2 σ2 4 q)]) (v := .int (σ2 4 q 7)) hx hb hts (by decide +kernel) hown hK ((hs_W.kept hW2 (fun q h1 h2 => hS.2.1 q h1 (hdis q h2))).one (hs_ix4 hq)) 0 rfl rfl 7 (by decide) (hts (.fieldLink RX2 35 "Waxrow$Person" "clashes" "I") (by decide +kernel)) (fun _ h9 => h9) rfl dX2_copyFrom_93 ?_
      refine hs_put (ci := cPe) (C := RX2) (T := TX2) (N := 8) (ty := .int) hx hb hts (by decide +kernel) tyX2 tyX2_ok nmX2 hown hK hW hS 4 q (hs_ix4 hq) rfl rfl 7 (by decide) (hts (.fieldLink RX2 35 "Waxrow$Person" "clashes" "I") (by decide +kernel)) (fun _ h9 => h9) rfl (by decide +kernel) rfl rfl (Nat.le_of_ble_eq_true rfl) (hs_sg (hs_sg (hs_sg (sp_cp2 (sp_cp1 σ σ2 q 3) σ2 q 6) 4 q 5 (σ2 4 q 5)) 4 q 6 (σ2 4 q 6)) 4 q 7 (σ2 4 q 7)) (by simp [hs_ct, hs_sg]) (hs_off _ _ _ _ _) dX2_copyFrom_96 (fun H locs hW hS => ?_)
      exact W.vret hx hb hr (fun t ht hW9 => ⟨⟨(hs_sg (hs_sg (hs_sg (sp_cp2 (sp_cp1 σ σ2 q 3) σ2 q 6) 4 q 5 (σ2 4 q 5)) 4 q 6 (σ2 4 q 6)) 4 q 7 (σ2 4 q 7)), rfl, rfl, ⟨by rw [ht]; exact hW, va_K.moved hW9.alike hK⟩⟩, hS.F ht⟩) hS.2.2 dX2_copyFrom_99
    · exact absurd (by rw [sp_six, hnN]; exact nI_le (Nat.le_refl _) (by omega)) c_42
  | succ k ih =>
    intro n hn H locs hW hS ls hl
    have hnN : n < 6 := by omega
    refine lv_iload_n hx hb dX2_copyFrom_39 rfl (lv_at hl 2 rfl) ?_
    refine lv_bipush (v := 6) hx hb dX2_copyFrom_40 (by decide) ?_
    refine lv_icmp_ge (tgt := 75) hx hb dX2_copyFrom_42 (by decide) (fun c_42 => ?_) (fun c_42 => ?_)
    · exact absurd (by rw [sp_six] at c_42; exact c_42) (nI_ge hnN (by omega))
    · refine lv_aload_n hx hb dX2_copyFrom_45 rfl (lv_at hl 0 rfl) ?_
      refine va_get (D := D) (ci := cPe) (C := RX2) (T := TX2) (N := 8) (ws := [(L 4 q, hs_ct d L (sp_cp2 (sp_cp1 σ σ2 q 3) σ2 q n) 4 q)]) (v := .ref (L 7 q)) hx hb hts (by decide +kernel) hown hK (hW.one (hs_ix4 hq)) 0 rfl rfl 3 (by decide) (hts (.fieldLink RX2 22 "Waxrow$Person" "low" "[I") (by decide +kernel)) (fun _ h9 => h9) rfl dX2_copyFrom_46 ?_
      refine lv_iload_n hx hb dX2_copyFrom_49 rfl (lv_at hl 2 rfl) ?_
      refine lv_aload_n hx hb dX2_copyFrom_50 rfl (lv_at hl 1 rfl) ?_
      refine va_get (D := D) (ci := cPe) (C := RX2) (T := TX2) (N := 8) (ws := [(L2 4 q, hs_ct d L2 σ2 4 q)]) (v := .ref (L2 7 q)) hx hb hts (by decide +kernel) hown hK ((hs_W.kept hW2 (fun q h1 h2 => hS.2.1 q h1 (hdis q h2))).one (hs_ix4 hq)) 0 rfl rfl 3 (by decide) (hts (.fieldLink RX2 22 "Waxrow$Person" "low" "[I") (by decide +kernel)) (fun _ h9 => h9) rfl dX2_copyFrom_51 ?_
      refine lv_iload_n hx hb dX2_copyFrom_54 rfl (lv_at hl 2 rfl) ?_
      refine hs_iald (L := L2) (σ := σ2) (n := 6) (f := σ2 7 q) hx hb hK (hs_W.kept hW2 (fun q h1 h2 => hS.2.1 q h1 (hdis q h2))) 7 q (hs_ix7 hq) rfl (vp_in_nI (show n < 6 by omega) (by decide)) dX2_copyFrom_55 ?_
      rw [nI_clamp (show n < 2 ^ 31 by omega)]
      refine hs_iast (n := 6) (f := (sp_cp2 (sp_cp1 σ σ2 q 3) σ2 q n) 7 q) hx hb hK hW hS 7 q (hs_ix7 hq) rfl (vp_in_nI (show n < 6 by omega) (by decide)) (hs_sg (sp_cp2 (sp_cp1 σ σ2 q 3) σ2 q n) 7 q n (σ2 7 q n)) (by simp only [hs_ct, hs_arr, nI_clamp (show n < 2 ^ 31 by omega)]) (hs_off _ _ _ _ _) dX2_copyFrom_56 (fun H locs hW hS => ?_)
      refine lv_aload_n hx hb dX2_copyFrom_57 rfl (lv_at hl 0 rfl) ?_
      refine va_get (D := D) (ci := cPe) (C := RX2) (T := TX2) (N := 8) (ws := [(L 4 q, hs_ct d L (hs_sg (sp_cp2 (sp_cp1 σ σ2 q 3) σ2 q n) 7 q n (σ2 7 q n)) 4 q)]) (v := .ref (L 8 q)) hx hb hts (by decide +kernel) hown hK (hW.one (hs_ix4 hq)) 0 rfl rfl 4 (by decide) (hts (.fieldLink RX2 25 "Waxrow$Person" "high" "[I") (by decide +kernel)) (fun _ h9 => h9) rfl dX2_copyFrom_58 ?_
      refine lv_iload_n hx hb dX2_copyFrom_61 rfl (lv_at hl 2 rfl) ?_
      refine lv_aload_n hx hb dX2_copyFrom_62 rfl (lv_at hl 1 rfl) ?_
      refine va_get (D := D) (ci := cPe) (C := RX2) (T := TX2) (N := 8) (ws := [(L2 4 q, hs_ct d L2 σ2 4 q)]) (v := .ref (L2 8 q)) hx hb hts (by decide +kernel) hown hK ((hs_W.kept hW2 (fun q h1 h2 => hS.2.1 q h1 (hdis q h2))).one (hs_ix4 hq)) 0 rfl rfl 4 (by decide) (hts (.fieldLink RX2 25 "Waxrow$Person" "high" "[I") (by decide +kernel)) (fun _ h9 => h9) rfl dX2_copyFrom_63 ?_
      refine lv_iload_n hx hb dX2_copyFrom_66 rfl (lv_at hl 2 rfl) ?_
      refine hs_iald (L := L2) (σ := σ2) (n := 6) (f := σ2 8 q) hx hb hK (hs_W.kept hW2 (fun q h1 h2 => hS.2.1 q h1 (hdis q h2))) 8 q (hs_ix8 hq) rfl (vp_in_nI (show n < 6 by omega) (by decide)) dX2_copyFrom_67 ?_
      rw [nI_clamp (show n < 2 ^ 31 by omega)]
      refine hs_iast (n := 6) (f := (hs_sg (sp_cp2 (sp_cp1 σ σ2 q 3) σ2 q n) 7 q n (σ2 7 q n)) 8 q) hx hb hK hW hS 8 q (hs_ix8 hq) rfl (vp_in_nI (show n < 6 by omega) (by decide)) (hs_sg (hs_sg (sp_cp2 (sp_cp1 σ σ2 q 3) σ2 q n) 7 q n (σ2 7 q n)) 8 q n (σ2 8 q n)) (by simp only [hs_ct, hs_arr, nI_clamp (show n < 2 ^ 31 by omega)]) (hs_off _ _ _ _ _) dX2_copyFrom_68 (fun H locs hW hS => ?_)
      refine lv_iinc (v := nI (n + 1)) (lv' := [(2, .int (nI (n + 1))), (0, .ref (L 4 q)), (1, .ref (L2 4 q))]) hx hb dX2_copyFrom_69 hl (k := 2) rfl (nI_succ _).symm (by decide) rfl (fun ls hl => ?_)
      refine lv_goto (tgt := 39) hx hb dX2_copyFrom_72 (by decide) ?_
      have e_s : (hs_sg (hs_sg (sp_cp2 (sp_cp1 σ σ2 q 3) σ2 q n) 7 q n (σ2 7 q n)) 8 q n (σ2 8 q n)) = (sp_cp2 (sp_cp1 σ σ2 q 3) σ2 q (n + 1)) := rfl
      rw [e_s] at hW
      exact ih (n + 1) (by omega) _ _ hW hS ls (lv_sub hl [1, 2, 0] rfl)
set_option maxHeartbeats 4000000 in
set_option maxRecDepth 100000 in
/-- Person.copyFrom: the loop at 2 -/
theorem lk1X2_copyFrom (l : Launch) (D : va_G) (d : hs_Dm) (L : hs_Lo) (σ : hs_St) (A : Nat → Prop) (L2 : hs_Lo) (σ2 : hs_St) (A2 : Nat → Prop) (hdis : ∀ q, A2 q → ¬ A q) {p : Program} {e : Env} {s : State} {m : MethodId} {args : Array Value} {below : List Frame} {meth : Method} {c : Code} (q : Nat) (hq : q < 10) (hcb : σ2 4 q 5 = 0 ∨ σ2 4 q 5 = 1)  (hx : p.tables.exec = Jvm.exec) (hb : c.code = cX2_copyFrom) (hr : meth.sig.returnType = none) (hts : ∀ w ∈ wsX2_copyFrom, w.before args s = true) (hown : s.vm.findClass RX2 = some m.cls) (hlocks : meth.locks = false) (hml : c.maxLocals = 3) (hK : va_K D vwCl (hs_ty d) s) (hE : hs_E d.2.2.2.2 A s) (hW2 : hs_W D d L2 σ2 A2 s.heap)  : ∀ (k n : Nat), n + k = 3 → ∀ (H : Heap) (locs : List Loc), hs_W D d L (sp_cp1 σ σ2 q n) A H → va_S A s.heap H locs → ∀ ls : Array Slot, lv_has ls 3 [(0, .ref (L 4 q)), (1, .ref (L2 4 q)), (2, .int (nI n))] → W p l e ({ frames := 0, cells := 0, slots := 0, locals := 0 } : Room) s m args below meth c H locs 0 0 (MQ below (va_Qv (fun τ => sp_cpP σ σ2 q = τ) (fun τ t => hs_B D d L τ A t) A) args s 0 0 A) (F0 m 2 ls []) := by
  intro k
  induction k with
  | zero =>
    intro n hn H locs hW hS ls hl
    have hnN : n = 3 := by omega
    refine lv_iload_n hx hb dX2_copyFrom_2 rfl (lv_at hl 2 rfl) ?_
    refine lv_iconst (v := 3) hx hb dX2_copyFrom_3 (by decide) ?_
    refine lv_icmp_ge (tgt := 37) hx hb dX2_copyFrom_4 (by decide) (fun c_4 => ?_) (fun c_4 => ?_)
    · rw [hnN] at hW
      refine lv_iconst (v := 0) hx hb dX2_copyFrom_37 (by decide) ?_
      refine lv_istore_n (lv' := [(2, .int 0), (0, .ref (L 4 q)), (1, .ref (L2 4 q))]) hx hb dX2_copyFrom_38 rfl hl (by decide) rfl (fun ls hl => ?_)
      exact lk2X2_copyFrom l D d L σ A L2 σ2 A2 hdis q hq hcb hx hb hr hts hown hlocks hml hK hE hW2 6 0 (by omega) _ _ hW hS ls (lv_sub hl [1, 2, 0] rfl)
    · exact absurd (by rw [sp_three, hnN]; exact nI_le (Nat.le_refl _) (by omega)) c_4
  | succ k ih =>
    intro n hn H locs hW hS ls hl
    have hnN : n < 3 := by omega
    refine lv_iload_n hx hb dX2_copyFrom_2 rfl (lv_at hl 2 rfl) ?_
    refine lv_iconst (v := 3) hx hb dX2_copyFrom_3 (by decide) ?_
    refine lv_icmp_ge (tgt := 37) hx hb dX2_copyFrom_4 (by decide) (fun c_4 => ?_) (fun c_4 => ?_)
    · exact absurd (by rw [sp_three] at c_4; exact c_4) (nI_ge hnN (by omega))
    · refine lv_aload_n hx hb dX2_copyFrom_7 rfl (lv_at hl 0 rfl) ?_
      refine va_get (D := D) (ci := cPe) (C := RX2) (T := TX2) (N := 8) (ws := [(L 4 q, hs_ct d L (sp_cp1 σ σ2 q n) 4 q)]) (v := .ref (L 5 q)) hx hb hts (by decide +kernel) hown hK (hW.one (hs_ix4 hq)) 0 rfl rfl 1 (by decide) (hts (.fieldLink RX2 15 "Waxrow$Person" "fame" "[I") (by decide +kernel)) (fun _ h9 => h9) rfl dX2_copyFrom_8 ?_
      refine lv_iload_n hx hb dX2_copyFrom_11 rfl (lv_at hl 2 rfl) ?_
      refine lv_aload_n hx hb dX2_copyFrom_12 rfl (lv_at hl 1 rfl) ?_
      refine va_get (D := D) (ci := cPe) (C := RX2) (T := TX2) (N := 8) (ws := [(L2 4 q, hs_ct d L2 σ2 4 q)]) (v := .ref (L2 5 q)) hx hb hts (by decide +kernel) hown hK ((hs_W.kept hW2 (fun q h1 h2 => hS.2.1 q h1 (hdis q h2))).one (hs_ix4 hq)) 0 rfl rfl 1 (by decide) (hts (.fieldLink RX2 15 "Waxrow$Person" "fame" "[I") (by decide +kernel)) (fun _ h9 => h9) rfl dX2_copyFrom_13 ?_
      refine lv_iload_n hx hb dX2_copyFrom_16 rfl (lv_at hl 2 rfl) ?_
      refine hs_iald (L := L2) (σ := σ2) (n := 3) (f := σ2 5 q) hx hb hK (hs_W.kept hW2 (fun q h1 h2 => hS.2.1 q h1 (hdis q h2))) 5 q (hs_ix5 hq) rfl (vp_in_nI (show n < 3 by omega) (by decide)) dX2_copyFrom_17 ?_
      rw [nI_clamp (show n < 2 ^ 31 by omega)]
      refine hs_iast (n := 3) (f := (sp_cp1 σ σ2 q n) 5 q) hx hb hK hW hS 5 q (hs_ix5 hq) rfl (vp_in_nI (show n < 3 by omega) (by decide)) (hs_sg (sp_cp1 σ σ2 q n) 5 q n (σ2 5 q n)) (by simp only [hs_ct, hs_arr, nI_clamp (show n < 2 ^ 31 by omega)]) (hs_off _ _ _ _ _) dX2_copyFrom_18 (fun H locs hW hS => ?_)
      refine lv_aload_n hx hb dX2_copyFrom_19 rfl (lv_at hl 0 rfl) ?_
      refine va_get (D := D) (ci := cPe) (C := RX2) (T := TX2) (N := 8) (ws := [(L 4 q, hs_ct d L (hs_sg (sp_cp1 σ σ2 q n) 5 q n (σ2 5 q n)) 4 q)]) (v := .ref (L 6 q)) hx hb hts (by decide +kernel) hown hK (hW.one (hs_ix4 hq)) 0 rfl rfl 2 (by decide) (hts (.fieldLink RX2 19 "Waxrow$Person" "trend" "[I") (by decide +kernel)) (fun _ h9 => h9) rfl dX2_copyFrom_20 ?_
      refine lv_iload_n hx hb dX2_copyFrom_23 rfl (lv_at hl 2 rfl) ?_
      refine lv_aload_n hx hb dX2_copyFrom_24 rfl (lv_at hl 1 rfl) ?_
      refine va_get (D := D) (ci := cPe) (C := RX2) (T := TX2) (N := 8) (ws := [(L2 4 q, hs_ct d L2 σ2 4 q)]) (v := .ref (L2 6 q)) hx hb hts (by decide +kernel) hown hK ((hs_W.kept hW2 (fun q h1 h2 => hS.2.1 q h1 (hdis q h2))).one (hs_ix4 hq)) 0 rfl rfl 2 (by decide) (hts (.fieldLink RX2 19 "Waxrow$Person" "trend" "[I") (by decide +kernel)) (fun _ h9 => h9) rfl dX2_copyFrom_25 ?_
      refine lv_iload_n hx hb dX2_copyFrom_28 rfl (lv_at hl 2 rfl) ?_
      refine hs_iald (L := L2) (σ := σ2) (n := 3) (f := σ2 6 q) hx hb hK (hs_W.kept hW2 (fun q h1 h2 => hS.2.1 q h1 (hdis q h2))) 6 q (hs_ix6 hq) rfl (vp_in_nI (show n < 3 by omega) (by decide)) dX2_copyFrom_29 ?_
      rw [nI_clamp (show n < 2 ^ 31 by omega)]
      refine hs_iast (n := 3) (f := (hs_sg (sp_cp1 σ σ2 q n) 5 q n (σ2 5 q n)) 6 q) hx hb hK hW hS 6 q (hs_ix6 hq) rfl (vp_in_nI (show n < 3 by omega) (by decide)) (hs_sg (hs_sg (sp_cp1 σ σ2 q n) 5 q n (σ2 5 q n)) 6 q n (σ2 6 q n)) (by simp only [hs_ct, hs_arr, nI_clamp (show n < 2 ^ 31 by omega)]) (hs_off _ _ _ _ _) dX2_copyFrom_30 (fun H locs hW hS => ?_)
      refine lv_iinc (v := nI (n + 1)) (lv' := [(2, .int (nI (n + 1))), (0, .ref (L 4 q)), (1, .ref (L2 4 q))]) hx hb dX2_copyFrom_31 hl (k := 2) rfl (nI_succ _).symm (by decide) rfl (fun ls hl => ?_)
      refine lv_goto (tgt := 2) hx hb dX2_copyFrom_34 (by decide) ?_
      have e_s : (hs_sg (hs_sg (sp_cp1 σ σ2 q n) 5 q n (σ2 5 q n)) 6 q n (σ2 6 q n)) = (sp_cp1 σ σ2 q (n + 1)) := rfl
      rw [e_s] at hW
      exact ih (n + 1) (by omega) _ _ hW hS ls (lv_sub hl [1, 2, 0] rfl)
set_option maxHeartbeats 4000000 in
set_option maxRecDepth 100000 in
/-- Person.copyFrom -/
theorem kX2_copyFrom (l : Launch) (D : va_G) (d : hs_Dm) (L : hs_Lo) (σ : hs_St) (A : Nat → Prop) (L2 : hs_Lo) (σ2 : hs_St) (A2 : Nat → Prop) (hdis : ∀ q, A2 q → ¬ A q) (q : Nat) (hq : q < 10) (hcb : σ2 4 q 5 = 0 ∨ σ2 4 q 5 = 1) : hs_M2v l yX2_copyFrom wsX2_copyFrom ({ frames := 0, cells := 0, slots := 0, locals := 0 }) D d L σ A L2 σ2 A2 [.ref (L 4 q), .ref (L2 4 q)] (fun τ => sp_cpP σ σ2 q = τ) := by
  refine Met.ofW (cc := cX2_copyFrom) (maxL := 3) (ret := none) (by decide) rfl ?_
  intro p e s m args below meth c s₁ B hml hv
  obtain ⟨rfl, ⟨⟨hW, hK⟩, hE⟩, hW2⟩ := hv
  have hx := B.exec
  have hb := B.bytes
  have hr := B.returns
  have hts := atoms_spec (ws := wsX2_copyFrom) B.pre
  have hown : s.vm.findClass RX2 = some m.cls := findClass_of_methodNamed B.named
  have hlocks := B.notSynchronized
  have hS : va_S A s.heap s.heap [] := va_S.rf
  have hW : hs_W D d L σ A s.heap := hW
  have hl := lv_entry ([.ref (L 4 q), .ref (L2 4 q)]) (n := 3) (Nat.le_of_ble_eq_true rfl)
  rw [lg_entry_eq]
  generalize (lg_sl ([.ref (L 4 q), .ref (L2 4 q)]) ++ List.replicate (3 - (lg_sl ([.ref (L 4 q), .ref (L2 4 q)])).length) Slot.unset).toArray = ls at hl ⊢
  have hl : lv_has ls 3 [(0, .ref (L 4 q)), (1, .ref (L2 4 q))] := hl
  refine lv_iconst (v := 0) hx hb dX2_copyFrom_0 (by decide) ?_
  refine lv_istore_n (lv' := [(2, .int 0), (0, .ref (L 4 q)), (1, .ref (L2 4 q))]) hx hb dX2_copyFrom_1 rfl hl (by decide) rfl (fun ls hl => ?_)
  exact lk1X2_copyFrom l D d L σ A L2 σ2 A2 hdis q hq hcb hx hb hr hts hown hlocks hml hK hE hW2 3 0 (by omega) _ _ hW hS ls (lv_sub hl [1, 2, 0] rfl)
set_option maxHeartbeats 4000000 in
set_option maxRecDepth 100000 in
/-- Figure.copyFrom -/
theorem kX0_copyFrom (l : Launch) (D : va_G) (d : hs_Dm) (L : hs_Lo) (σ : hs_St) (A : Nat → Prop) (L2 : hs_Lo) (σ2 : hs_St) (A2 : Nat → Prop) (hdis : ∀ q, A2 q → ¬ A q) (f : Nat) (hf : f < 8) (x y : Nat) (hx10 : x < 10) (hy10 : y < 10) : hs_M2v l yX0_copyFrom wsX0_copyFrom ({ frames := 0, cells := 0, slots := 0, locals := 0 }) D d L σ A L2 σ2 A2 [.ref (L 9 f), .ref (L2 9 f), .ref (L 4 x), .ref (L 4 y)] (fun τ => sp_cpF σ σ2 f x y = τ) := by
  refine Met.ofW (cc := cX0_copyFrom) (maxL := 4) (ret := none) (by decide) rfl ?_
  intro p e s m args below meth c s₁ B hml hv
  obtain ⟨rfl, ⟨⟨hW, hK⟩, hE⟩, hW2⟩ := hv
  have hx := B.exec
  have hb := B.bytes
  have hr := B.returns
  have hts := atoms_spec (ws := wsX0_copyFrom) B.pre
  have hown : s.vm.findClass RX0 = some m.cls := findClass_of_methodNamed B.named
  have hlocks := B.notSynchronized
  have hS : va_S A s.heap s.heap [] := va_S.rf
  have hW : hs_W D d L σ A s.heap := hW
  have hl := lv_entry ([.ref (L 9 f), .ref (L2 9 f), .ref (L 4 x), .ref (L 4 y)]) (n := 4) (Nat.le_of_ble_eq_true rfl)
  rw [lg_entry_eq]
  generalize (lg_sl ([.ref (L 9 f), .ref (L2 9 f), .ref (L 4 x), .ref (L 4 y)]) ++ List.replicate (4 - (lg_sl ([.ref (L 9 f), .ref (L2 9 f), .ref (L 4 x), .ref (L 4 y)])).length) Slot.unset).toArray = ls at hl ⊢
  have hl : lv_has ls 4 [(0, .ref (L 9 f)), (1, .ref (L2 9 f)), (2, .ref (L 4 x)), (3, .ref (L 4 y))] := hl
  refine lv_aload_n hx hb dX0_copyFrom_0 rfl (lv_at hl 0 rfl) ?_
  refine lv_aload_n hx hb dX0_copyFrom_1 rfl (lv_at hl 2 rfl) ?_
  refine hs_put (ci := cFi) (C := RX0) (T := TX0) (N := 11) (ty := (.object "Waxrow$Person")) hx hb hts (by decide +kernel) tyX0 tyX0_ok nmX0 hown hK hW hS 9 f (hs_ix9 hf) rfl rfl 0 (by decide) (hts (.fieldLink RX0 9 "Waxrow$Figure" "head" "LWaxrow$Person;") (by decide +kernel)) (fun _ h9 => h9) rfl (by decide +kernel) rfl rfl (Nat.le_of_ble_eq_true rfl) (hs_sg σ 9 f 0 (nI x)) (by simp [hs_ct, hs_sg, nI_clamp (show x < 2 ^ 31 by omega)]) (hs_off _ _ _ _ _) dX0_copyFrom_2 (fun H locs hW hS => ?_)
  refine lv_aload_n hx hb dX0_copyFrom_5 rfl (lv_at hl 0 rfl) ?_
  refine lv_aload_n hx hb dX0_copyFrom_6 rfl (lv_at hl 3 rfl) ?_
  refine hs_put (ci := cFi) (C := RX0) (T := TX0) (N := 11) (ty := (.object "Waxrow$Person")) hx hb hts (by decide +kernel) tyX0 tyX0_ok nmX0 hown hK hW hS 9 f (hs_ix9 hf) rfl rfl 1 (by decide) (hts (.fieldLink RX0 15 "Waxrow$Figure" "body" "LWaxrow$Person;") (by decide +kernel)) (fun _ h9 => h9) rfl (by decide +kernel) rfl rfl (Nat.le_of_ble_eq_true rfl) (hs_sg (hs_sg σ 9 f 0 (nI x)) 9 f 1 (nI y)) (by simp [hs_ct, hs_sg, nI_clamp (show y < 2 ^ 31 by omega)]) (hs_off _ _ _ _ _) dX0_copyFrom_7 (fun H locs hW hS => ?_)
  refine lv_aload_n hx hb dX0_copyFrom_10 rfl (lv_at hl 0 rfl) ?_
  refine lv_aload_n hx hb dX0_copyFrom_11 rfl (lv_at hl 1 rfl) ?_
  refine va_get (D := D) (ci := cFi) (C := RX0) (T := TX0) (N := 11) (ws := [(L2 9 f, hs_ct d L2 σ2 9 f)]) (v := .int (σ2 9 f 2)) hx hb hts (by decide +kernel) hown hK ((hs_W.kept hW2 (fun q h1 h2 => hS.2.1 q h1 (hdis q h2))).one (hs_ix9 hf)) 0 rfl rfl 2 (by decide) (hts (.fieldLink RX0 22 "Waxrow$Figure" "step" "I") (by decide +kernel)) (fun _ h9 => h9) rfl dX0_copyFrom_12 ?_
  refine hs_put (ci := cFi) (C := RX0) (T := TX0) (N := 11) (ty := .int) hx hb hts (by decide +kernel) tyX0 tyX0_ok nmX0 hown hK hW hS 9 f (hs_ix9 hf) rfl rfl 2 (by decide) (hts (.fieldLink RX0 22 "Waxrow$Figure" "step" "I") (by decide +kernel)) (fun _ h9 => h9) rfl (by decide +kernel) rfl rfl (Nat.le_of_ble_eq_true rfl) (hs_sg (hs_sg (hs_sg σ 9 f 0 (nI x)) 9 f 1 (nI y)) 9 f 2 (σ2 9 f 2)) (by simp [hs_ct, hs_sg]) (hs_off _ _ _ _ _) dX0_copyFrom_15 (fun H locs hW hS => ?_)
  refine lv_aload_n hx hb dX0_copyFrom_18 rfl (lv_at hl 0 rfl) ?_
  refine lv_aload_n hx hb dX0_copyFrom_19 rfl (lv_at hl 1 rfl) ?_
  refine va_get (D := D) (ci := cFi) (C := RX0) (T := TX0) (N := 11) (ws := [(L2 9 f, hs_ct d L2 σ2 9 f)]) (v := .int (σ2 9 f 3)) hx hb hts (by decide +kernel) hown hK ((hs_W.kept hW2 (fun q h1 h2 => hS.2.1 q h1 (hdis q h2))).one (hs_ix9 hf)) 0 rfl rfl 3 (by decide) (hts (.fieldLink RX0 25 "Waxrow$Figure" "workInStep" "I") (by decide +kernel)) (fun _ h9 => h9) rfl dX0_copyFrom_20 ?_
  refine hs_put (ci := cFi) (C := RX0) (T := TX0) (N := 11) (ty := .int) hx hb hts (by decide +kernel) tyX0 tyX0_ok nmX0 hown hK hW hS 9 f (hs_ix9 hf) rfl rfl 3 (by decide) (hts (.fieldLink RX0 25 "Waxrow$Figure" "workInStep" "I") (by decide +kernel)) (fun _ h9 => h9) rfl (by decide +kernel) rfl rfl (Nat.le_of_ble_eq_true rfl) (hs_sg (hs_sg (hs_sg (hs_sg σ 9 f 0 (nI x)) 9 f 1 (nI y)) 9 f 2 (σ2 9 f 2)) 9 f 3 (σ2 9 f 3)) (by simp [hs_ct, hs_sg]) (hs_off _ _ _ _ _) dX0_copyFrom_23 (fun H locs hW hS => ?_)
  refine lv_aload_n hx hb dX0_copyFrom_26 rfl (lv_at hl 0 rfl) ?_
  refine lv_aload_n hx hb dX0_copyFrom_27 rfl (lv_at hl 1 rfl) ?_
  refine va_get (D := D) (ci := cFi) (C := RX0) (T := TX0) (N := 11) (ws := [(L2 9 f, hs_ct d L2 σ2 9 f)]) (v := .int (σ2 9 f 4)) hx hb hts (by decide +kernel) hown hK ((hs_W.kept hW2 (fun q h1 h2 => hS.2.1 q h1 (hdis q h2))).one (hs_ix9 hf)) 0 rfl rfl 4 (by decide) (hts (.fieldLink RX0 28 "Waxrow$Figure" "hands" "I") (by decide +kernel)) (fun _ h9 => h9) rfl dX0_copyFrom_28 ?_
  refine hs_put (ci := cFi) (C := RX0) (T := TX0) (N := 11) (ty := .int) hx hb hts (by decide +kernel) tyX0 tyX0_ok nmX0 hown hK hW hS 9 f (hs_ix9 hf) rfl rfl 4 (by decide) (hts (.fieldLink RX0 28 "Waxrow$Figure" "hands" "I") (by decide +kernel)) (fun _ h9 => h9) rfl (by decide +kernel) rfl rfl (Nat.le_of_ble_eq_true rfl) (hs_sg (hs_sg (hs_sg (hs_sg (hs_sg σ 9 f 0 (nI x)) 9 f 1 (nI y)) 9 f 2 (σ2 9 f 2)) 9 f 3 (σ2 9 f 3)) 9 f 4 (σ2 9 f 4)) (by simp [hs_ct, hs_sg]) (hs_off _ _ _ _ _) dX0_copyFrom_31 (fun H locs hW hS => ?_)
  refine lv_aload_n hx hb dX0_copyFrom_34 rfl (lv_at hl 0 rfl) ?_
  refine lv_aload_n hx hb dX0_copyFrom_35 rfl (lv_at hl 1 rfl) ?_
  refine va_get (D := D) (ci := cFi) (C := RX0) (T := TX0) (N := 11) (ws := [(L2 9 f, hs_ct d L2 σ2 9 f)]) (v := .int (σ2 9 f 5)) hx hb hts (by decide +kernel) hown hK ((hs_W.kept hW2 (fun q h1 h2 => hS.2.1 q h1 (hdis q h2))).one (hs_ix9 hf)) 0 rfl rfl 5 (by decide) (hts (.fieldLink RX0 31 "Waxrow$Figure" "flaw" "I") (by decide +kernel)) (fun _ h9 => h9) rfl dX0_copyFrom_36 ?_
  refine hs_put (ci := cFi) (C := RX0) (T := TX0) (N := 11) (ty := .int) hx hb hts (by decide +kernel) tyX0 tyX0_ok nmX0 hown hK hW hS 9 f (hs_ix9 hf) rfl rfl 5 (by decide) (hts (.fieldLink RX0 31 "Waxrow$Figure" "flaw" "I") (by decide +kernel)) (fun _ h9 => h9) rfl (by decide +kernel) rfl rfl (Nat.le_of_ble_eq_true rfl) (hs_sg (hs_sg (hs_sg (hs_sg (hs_sg (hs_sg σ 9 f 0 (nI x)) 9 f 1 (nI y)) 9 f 2 (σ2 9 f 2)) 9 f 3 (σ2 9 f 3)) 9 f 4 (σ2 9 f 4)) 9 f 5 (σ2 9 f 5)) (by simp [hs_ct, hs_sg]) (hs_off _ _ _ _ _) dX0_copyFrom_39 (fun H locs hW hS => ?_)
  refine lv_aload_n hx hb dX0_copyFrom_42 rfl (lv_at hl 0 rfl) ?_
  refine lv_aload_n hx hb dX0_copyFrom_43 rfl (lv_at hl 1 rfl) ?_
  refine va_get (D := D) (ci := cFi) (C := RX0) (T := TX0) (N := 11) (ws := [(L2 9 f, hs_ct d L2 σ2 9 f)]) (v := .int (σ2 9 f 6)) hx hb hts (by decide +kernel) hown hK ((hs_W.kept hW2 (fun q h1 h2 => hS.2.1 q h1 (hdis q h2))).one (hs_ix9 hf)) 0 rfl rfl 6 (by decide) (hts (.fieldLink RX0 34 "Waxrow$Figure" "wear" "I") (by decide +kernel)) (fun _ h9 => h9) rfl dX0_copyFrom_44 ?_
  refine hs_put (ci := cFi) (C := RX0) (T := TX0) (N := 11) (ty := .int) hx hb hts (by decide +kernel) tyX0 tyX0_ok nmX0 hown hK hW hS 9 f (hs_ix9 hf) rfl rfl 6 (by decide) (hts (.fieldLink RX0 34 "Waxrow$Figure" "wear" "I") (by decide +kernel)) (fun _ h9 => h9) rfl (by decide +kernel) rfl rfl (Nat.le_of_ble_eq_true rfl) (hs_sg (hs_sg (hs_sg (hs_sg (hs_sg (hs_sg (hs_sg σ 9 f 0 (nI x)) 9 f 1 (nI y)) 9 f 2 (σ2 9 f 2)) 9 f 3 (σ2 9 f 3)) 9 f 4 (σ2 9 f 4)) 9 f 5 (σ2 9 f 5)) 9 f 6 (σ2 9 f 6)) (by simp [hs_ct, hs_sg]) (hs_off _ _ _ _ _) dX0_copyFrom_47 (fun H locs hW hS => ?_)
  refine lv_aload_n hx hb dX0_copyFrom_50 rfl (lv_at hl 0 rfl) ?_
  refine lv_aload_n hx hb dX0_copyFrom_51 rfl (lv_at hl 1 rfl) ?_
  refine va_get (D := D) (ci := cFi) (C := RX0) (T := TX0) (N := 11) (ws := [(L2 9 f, hs_ct d L2 σ2 9 f)]) (v := .int (σ2 9 f 7)) hx hb hts (by decide +kernel) hown hK ((hs_W.kept hW2 (fun q h1 h2 => hS.2.1 q h1 (hdis q h2))).one (hs_ix9 hf)) 0 rfl rfl 7 (by decide) (hts (.fieldLink RX0 18 "Waxrow$Figure" "place" "I") (by decide +kernel)) (fun _ h9 => h9) rfl dX0_copyFrom_52 ?_
  refine hs_put (ci := cFi) (C := RX0) (T := TX0) (N := 11) (ty := .int) hx hb hts (by decide +kernel) tyX0 tyX0_ok nmX0 hown hK hW hS 9 f (hs_ix9 hf) rfl rfl 7 (by decide) (hts (.fieldLink RX0 18 "Waxrow$Figure" "place" "I") (by decide +kernel)) (fun _ h9 => h9) rfl (by decide +kernel) rfl rfl (Nat.le_of_ble_eq_true rfl) (hs_sg (hs_sg (hs_sg (hs_sg (hs_sg (hs_sg (hs_sg (hs_sg σ 9 f 0 (nI x)) 9 f 1 (nI y)) 9 f 2 (σ2 9 f 2)) 9 f 3 (σ2 9 f 3)) 9 f 4 (σ2 9 f 4)) 9 f 5 (σ2 9 f 5)) 9 f 6 (σ2 9 f 6)) 9 f 7 (σ2 9 f 7)) (by simp [hs_ct, hs_sg]) (hs_off _ _ _ _ _) dX0_copyFrom_55 (fun H locs hW hS => ?_)
  refine lv_aload_n hx hb dX0_copyFrom_58 rfl (lv_at hl 0 rfl) ?_
  refine lv_aload_n hx hb dX0_copyFrom_59 rfl (lv_at hl 1 rfl) ?_
  refine va_get (D := D) (ci := cFi) (C := RX0) (T := TX0) (N := 11) (ws := [(L2 9 f, hs_ct d L2 σ2 9 f)]) (v := .int (σ2 9 f 8)) hx hb hts (by decide +kernel) hown hK ((hs_W.kept hW2 (fun q h1 h2 => hS.2.1 q h1 (hdis q h2))).one (hs_ix9 hf)) 0 rfl rfl 8 (by decide) (hts (.fieldLink RX0 37 "Waxrow$Figure" "tourLand" "I") (by decide +kernel)) (fun _ h9 => h9) rfl dX0_copyFrom_60 ?_
  refine hs_put (ci := cFi) (C := RX0) (T := TX0) (N := 11) (ty := .int) hx hb hts (by decide +kernel) tyX0 tyX0_ok nmX0 hown hK hW hS 9 f (hs_ix9 hf) rfl rfl 8 (by decide) (hts (.fieldLink RX0 37 "Waxrow$Figure" "tourLand" "I") (by decide +kernel)) (fun _ h9 => h9) rfl (by decide +kernel) rfl rfl (Nat.le_of_ble_eq_true rfl) (hs_sg (hs_sg (hs_sg (hs_sg (hs_sg (hs_sg (hs_sg (hs_sg (hs_sg σ 9 f 0 (nI x)) 9 f 1 (nI y)) 9 f 2 (σ2 9 f 2)) 9 f 3 (σ2 9 f 3)) 9 f 4 (σ2 9 f 4)) 9 f 5 (σ2 9 f 5)) 9 f 6 (σ2 9 f 6)) 9 f 7 (σ2 9 f 7)) 9 f 8 (σ2 9 f 8)) (by simp [hs_ct, hs_sg]) (hs_off _ _ _ _ _) dX0_copyFrom_63 (fun H locs hW hS => ?_)
  refine lv_aload_n hx hb dX0_copyFrom_66 rfl (lv_at hl 0 rfl) ?_
  refine lv_aload_n hx hb dX0_copyFrom_67 rfl (lv_at hl 1 rfl) ?_
  refine va_get (D := D) (ci := cFi) (C := RX0) (T := TX0) (N := 11) (ws := [(L2 9 f, hs_ct d L2 σ2 9 f)]) (v := .int (σ2 9 f 9)) hx hb hts (by decide +kernel) hown hK ((hs_W.kept hW2 (fun q h1 h2 => hS.2.1 q h1 (hdis q h2))).one (hs_ix9 hf)) 0 rfl rfl 9 (by decide) (hts (.fieldLink RX0 40 "Waxrow$Figure" "tourDays" "I") (by decide +kernel)) (fun _ h9 => h9) rfl dX0_copyFrom_68 ?_
  refine hs_put (ci := cFi) (C := RX0) (T := TX0) (N := 11) (ty := .int) hx hb hts (by decide +kernel) tyX0 tyX0_ok nmX0 hown hK hW hS 9 f (hs_ix9 hf) rfl rfl 9 (by decide) (hts (.fieldLink RX0 40 "Waxrow$Figure" "tourDays" "I") (by decide +kernel)) (fun _ h9 => h9) rfl (by decide +kernel) rfl rfl (Nat.le_of_ble_eq_true rfl) (hs_sg (hs_sg (hs_sg (hs_sg (hs_sg (hs_sg (hs_sg (hs_sg (hs_sg (hs_sg σ 9 f 0 (nI x)) 9 f 1 (nI y)) 9 f 2 (σ2 9 f 2)) 9 f 3 (σ2 9 f 3)) 9 f 4 (σ2 9 f 4)) 9 f 5 (σ2 9 f 5)) 9 f 6 (σ2 9 f 6)) 9 f 7 (σ2 9 f 7)) 9 f 8 (σ2 9 f 8)) 9 f 9 (σ2 9 f 9)) (by simp [hs_ct, hs_sg]) (hs_off _ _ _ _ _) dX0_copyFrom_71 (fun H locs hW hS => ?_)
  refine lv_aload_n hx hb dX0_copyFrom_74 rfl (lv_at hl 0 rfl) ?_
  refine lv_aload_n hx hb dX0_copyFrom_75 rfl (lv_at hl 1 rfl) ?_
  refine va_get (D := D) (ci := cFi) (C := RX0) (T := TX0) (N := 11) (ws := [(L2 9 f, hs_ct d L2 σ2 9 f)]) (v := .int (σ2 9 f 10)) hx hb hts (by decide +kernel) hown hK ((hs_W.kept hW2 (fun q h1 h2 => hS.2.1 q h1 (hdis q h2))).one (hs_ix9 hf)) 0 rfl rfl 10 (by decide) (hts (.fieldLink RX0 43 "Waxrow$Figure" "touched" "I") (by decide +kernel)) (fun _ h9 => h9) rfl dX0_copyFrom_76 ?_
  refine hs_put (ci := cFi) (C := RX0) (T := TX0) (N := 11) (ty := .int) hx hb hts (by decide +kernel) tyX0 tyX0_ok nmX0 hown hK hW hS 9 f (hs_ix9 hf) rfl rfl 10 (by decide) (hts (.fieldLink RX0 43 "Waxrow$Figure" "touched" "I") (by decide +kernel)) (fun _ h9 => h9) rfl (by decide +kernel) rfl rfl (Nat.le_of_ble_eq_true rfl) (hs_sg (hs_sg (hs_sg (hs_sg (hs_sg (hs_sg (hs_sg (hs_sg (hs_sg (hs_sg (hs_sg σ 9 f 0 (nI x)) 9 f 1 (nI y)) 9 f 2 (σ2 9 f 2)) 9 f 3 (σ2 9 f 3)) 9 f 4 (σ2 9 f 4)) 9 f 5 (σ2 9 f 5)) 9 f 6 (σ2 9 f 6)) 9 f 7 (σ2 9 f 7)) 9 f 8 (σ2 9 f 8)) 9 f 9 (σ2 9 f 9)) 9 f 10 (σ2 9 f 10)) (by simp [hs_ct, hs_sg]) (hs_off _ _ _ _ _) dX0_copyFrom_79 (fun H locs hW hS => ?_)
  exact W.vret hx hb hr (fun t ht hW9 => ⟨⟨(hs_sg (hs_sg (hs_sg (hs_sg (hs_sg (hs_sg (hs_sg (hs_sg (hs_sg (hs_sg (hs_sg σ 9 f 0 (nI x)) 9 f 1 (nI y)) 9 f 2 (σ2 9 f 2)) 9 f 3 (σ2 9 f 3)) 9 f 4 (σ2 9 f 4)) 9 f 5 (σ2 9 f 5)) 9 f 6 (σ2 9 f 6)) 9 f 7 (σ2 9 f 7)) 9 f 8 (σ2 9 f 8)) 9 f 9 (σ2 9 f 9)) 9 f 10 (σ2 9 f 10)), rfl, rfl, ⟨by rw [ht]; exact hW, va_K.moved hW9.alike hK⟩⟩, hS.F ht⟩) hS.2.2 dX0_copyFrom_82
set_option maxHeartbeats 4000000 in
set_option maxRecDepth 100000 in
/-- House.copyFrom: the loop at 152 -/
theorem lk3X1_copyFrom (l : Launch) (D : va_G) (d : hs_Dm) (L : hs_Lo) (σ : hs_St) (A : Nat → Prop) (L2 : hs_Lo) (σ2 : hs_St) (A2 : Nat → Prop) (hdis : ∀ q, A2 q → ¬ A q) {p : Program} {e : Env} {s : State} {m : MethodId} {args : Array Value} {below : List Frame} {meth : Method} {c : Code} (P F R : Nat) (hok2 : hs_ok P F R σ2) (hliv : ∀ f, f < F → (σ2 9 f 0).toNatClampNeg < P ∧ (σ2 9 f 1).toNatClampNeg < P) (hcb : ∀ q, q < 10 → σ2 4 q 5 = 0 ∨ σ2 4 q 5 = 1)  (hx : p.tables.exec = Jvm.exec) (hb : c.code = cX1_copyFrom) (hr : meth.sig.returnType = none) (hts : ∀ w ∈ wsX1_copyFrom, w.before args s = true) (hown : s.vm.findClass RX1 = some m.cls) (hlocks : meth.locks = false) (hml : c.maxLocals = 4) (hK : va_K D vwCl (hs_ty d) s) (hE : hs_E d.2.2.2.2 A s) (hW2 : hs_W D d L2 σ2 A2 s.heap)  : ∀ (k n : Nat), n + k = R → ∀ (H : Heap) (locs : List Loc), hs_W D d L (sp_cpRs (sp_cpFs (sp_cpPs (sp_cpH σ σ2) σ2 P) σ2 F) σ2 n) A H → va_S A s.heap H locs → ∀ ls : Array Slot, lv_has ls 4 [(0, .ref (L 0 0)), (1, .ref (L2 0 0)), (2, .int (nI n))] → W p l e ({ frames := 2, cells := 0, slots := 0, locals := 46 } : Room) s m args below meth c H locs 0 0 (MQ below (va_Qv (fun τ => sp_copy σ σ2 P F R = τ) (fun τ t => hs_B D d L τ A t) A) args s 0 0 A) (F0 m 152 ls []) := by
  intro k
  induction k with
  | zero =>
    intro n hn H locs hW hS ls hl
    have h8 := hok2.2.1
    have h10 := hok2.1
    have h5 := hok2.2.2.1
    have hnN : n = R := by omega
    refine lv_iload_n hx hb dX1_copyFrom_152 rfl (lv_at hl 2 rfl) ?_
    refine lv_aload_n hx hb dX1_copyFrom_153 rfl (lv_at hl 0 rfl) ?_
    refine va_get (D := D) (ci := cHo) (C := RX1) (T := TX1) (N := 11) (ws := [(L 0 0, hs_ct d L (sp_cpRs (sp_cpFs (sp_cpPs (sp_cpH σ σ2) σ2 P) σ2 F) σ2 n) 0 0)]) (v := .int ((sp_cpRs (sp_cpFs (sp_cpPs (sp_cpH σ σ2) σ2 P) σ2 F) σ2 n) 0 0 5)) hx hb hts (by decide +kernel) hown hK (hW.one hs_ix0) 0 rfl rfl 5 (by decide) (hts (.fieldLink RX1 52 "Waxrow$House" "roomCount" "I") (by decide +kernel)) (fun _ h9 => h9) rfl dX1_copyFrom_154 ?_
    refine lv_icmp_ge (tgt := 202) hx hb dX1_copyFrom_157 (by decide) (fun c_157 => ?_) (fun c_157 => ?_)
    · rw [hnN] at hW
      exact W.vret hx hb hr (fun t ht hW9 => ⟨⟨(sp_cpRs (sp_cpFs (sp_cpPs (sp_cpH σ σ2) σ2 P) σ2 F) σ2 R), rfl, rfl, ⟨by rw [ht]; exact hW, va_K.moved hW9.alike hK⟩⟩, hS.F ht⟩) hS.2.2 dX1_copyFrom_202
    · exact absurd (by rw [(show (sp_cpRs (sp_cpFs (sp_cpPs (sp_cpH σ σ2) σ2 P) σ2 F) σ2 n) 0 0 5 = nI R by rw [sp_cpRs_off _ _ _ _ _ (by omega), sp_cpFs_off _ _ _ _ _ (by omega), sp_cpPs_off _ _ _ _ _ (by omega)]; simp only [sp_cpH, hs_sg]; exact hok2.hR), hnN]; exact nI_le (Nat.le_refl _) (by omega)) c_157
  | succ k ih =>
    intro n hn H locs hW hS ls hl
    have h8 := hok2.2.1
    have h10 := hok2.1
    have h5 := hok2.2.2.1
    have hnN : n < R := by omega
    refine lv_iload_n hx hb dX1_copyFrom_152 rfl (lv_at hl 2 rfl) ?_
    refine lv_aload_n hx hb dX1_copyFrom_153 rfl (lv_at hl 0 rfl) ?_
    refine va_get (D := D) (ci := cHo) (C := RX1) (T := TX1) (N := 11) (ws := [(L 0 0, hs_ct d L (sp_cpRs (sp_cpFs (sp_cpPs (sp_cpH σ σ2) σ2 P) σ2 F) σ2 n) 0 0)]) (v := .int ((sp_cpRs (sp_cpFs (sp_cpPs (sp_cpH σ σ2) σ2 P) σ2 F) σ2 n) 0 0 5)) hx hb hts (by decide +kernel) hown hK (hW.one hs_ix0) 0 rfl rfl 5 (by decide) (hts (.fieldLink RX1 52 "Waxrow$House" "roomCount" "I") (by decide +kernel)) (fun _ h9 => h9) rfl dX1_copyFrom_154 ?_
    refine lv_icmp_ge (tgt := 202) hx hb dX1_copyFrom_157 (by decide) (fun c_157 => ?_) (fun c_157 => ?_)
    · exact absurd (by rw [(show (sp_cpRs (sp_cpFs (sp_cpPs (sp_cpH σ σ2) σ2 P) σ2 F) σ2 n) 0 0 5 = nI R by rw [sp_cpRs_off _ _ _ _ _ (by omega), sp_cpFs_off _ _ _ _ _ (by omega), sp_cpPs_off _ _ _ _ _ (by omega)]; simp only [sp_cpH, hs_sg]; exact hok2.hR)] at c_157; exact c_157) (nI_ge hnN (by omega))
    · refine lv_aload_n hx hb dX1_copyFrom_160 rfl (lv_at hl 0 rfl) ?_
      refine va_get (D := D) (ci := cHo) (C := RX1) (T := TX1) (N := 11) (ws := [(L 0 0, hs_ct d L (sp_cpRs (sp_cpFs (sp_cpPs (sp_cpH σ σ2) σ2 P) σ2 F) σ2 n) 0 0)]) (v := .ref (L 3 0)) hx hb hts (by decide +kernel) hown hK (hW.one hs_ix0) 0 rfl rfl 2 (by decide) (hts (.fieldLink RX1 31 "Waxrow$House" "rooms" "[LWaxrow$Room;") (by decide +kernel)) (fun _ h9 => h9) rfl dX1_copyFrom_161 ?_
      refine lv_iload_n hx hb dX1_copyFrom_164 rfl (lv_at hl 2 rfl) ?_
      refine hs_aald (n := 5) (g := fun j => L 10 j) hx hb hK hW 3 3 hs_ix3 rfl rfl (vp_in_nI (show n < 5 by omega) (by decide)) dX1_copyFrom_165 ?_
      rw [nI_clamp (show n < 2 ^ 31 by omega)]
      refine lv_aload_n hx hb dX1_copyFrom_166 rfl (lv_at hl 1 rfl) ?_
      refine va_get (D := D) (ci := cHo) (C := RX1) (T := TX1) (N := 11) (ws := [(L2 0 0, hs_ct d L2 σ2 0 0)]) (v := .ref (L2 3 0)) hx hb hts (by decide +kernel) hown hK ((hs_W.kept hW2 (fun q h1 h2 => hS.2.1 q h1 (hdis q h2))).one hs_ix0) 0 rfl rfl 2 (by decide) (hts (.fieldLink RX1 31 "Waxrow$House" "rooms" "[LWaxrow$Room;") (by decide +kernel)) (fun _ h9 => h9) rfl dX1_copyFrom_167 ?_
      refine lv_iload_n hx hb dX1_copyFrom_170 rfl (lv_at hl 2 rfl) ?_
      refine hs_aald (L := L2) (σ := σ2) (n := 5) (g := fun j => L2 10 j) hx hb hK (hs_W.kept hW2 (fun q h1 h2 => hS.2.1 q h1 (hdis q h2))) 3 3 hs_ix3 rfl rfl (vp_in_nI (show n < 5 by omega) (by decide)) dX1_copyFrom_171 ?_
      rw [nI_clamp (show n < 2 ^ 31 by omega)]
      refine va_get (D := D) (ci := cRo) (C := RX3) (T := TX3) (N := 2) (ws := [(L2 10 n, hs_ct d L2 σ2 10 n)]) (v := .int (σ2 10 n 0)) hx hb hts (by decide +kernel) hown hK ((hs_W.kept hW2 (fun q h1 h2 => hS.2.1 q h1 (hdis q h2))).one (hs_ix10 (show n < 5 by omega))) 0 rfl rfl 0 (by decide) (hts (.fieldLink RX1 81 "Waxrow$Room" "lamps" "I") (by decide +kernel)) (fun _ h9 => h9) rfl dX1_copyFrom_172 ?_
      refine hs_put (ci := cRo) (C := RX3) (T := TX3) (N := 2) (ty := .int) hx hb hts (by decide +kernel) tyX3 tyX3_ok nmX3 hown hK hW hS 10 n (hs_ix10 (show n < 5 by omega)) rfl rfl 0 (by decide) (hts (.fieldLink RX1 81 "Waxrow$Room" "lamps" "I") (by decide +kernel)) (fun _ h9 => h9) rfl (by decide +kernel) rfl rfl (Nat.le_of_ble_eq_true rfl) (hs_sg (sp_cpRs (sp_cpFs (sp_cpPs (sp_cpH σ σ2) σ2 P) σ2 F) σ2 n) 10 n 0 (σ2 10 n 0)) (by simp [hs_ct, hs_sg]) (hs_off _ _ _ _ _) dX1_copyFrom_175 (fun H locs hW hS => ?_)
      refine lv_aload_n hx hb dX1_copyFrom_178 rfl (lv_at hl 0 rfl) ?_
      refine va_get (D := D) (ci := cHo) (C := RX1) (T := TX1) (N := 11) (ws := [(L 0 0, hs_ct d L (hs_sg (sp_cpRs (sp_cpFs (sp_cpPs (sp_cpH σ σ2) σ2 P) σ2 F) σ2 n) 10 n 0 (σ2 10 n 0)) 0 0)]) (v := .ref (L 3 0)) hx hb hts (by decide +kernel) hown hK (hW.one hs_ix0) 0 rfl rfl 2 (by decide) (hts (.fieldLink RX1 31 "Waxrow$House" "rooms" "[LWaxrow$Room;") (by decide +kernel)) (fun _ h9 => h9) rfl dX1_copyFrom_179 ?_
      refine lv_iload_n hx hb dX1_copyFrom_182 rfl (lv_at hl 2 rfl) ?_
      refine hs_aald (n := 5) (g := fun j => L 10 j) hx hb hK hW 3 3 hs_ix3 rfl rfl (vp_in_nI (show n < 5 by omega) (by decide)) dX1_copyFrom_183 ?_
      rw [nI_clamp (show n < 2 ^ 31 by omega)]
      refine lv_aload_n hx hb dX1_copyFrom_184 rfl (lv_at hl 1 rfl) ?_
      refine va_get (D := D) (ci := cHo) (C := RX1) (T := TX1) (N := 11) (ws := [(L2 0 0, hs_ct d L2 σ2 0 0)]) (v := .ref (L2 3 0)) hx hb hts (by decide +kernel) hown hK ((hs_W.kept hW2 (fun q h1 h2 => hS.2.1 q h1 (hdis q h2))).one hs_ix0) 0 rfl rfl 2 (by decide) (hts (.fieldLink RX1 31 "Waxrow$House" "rooms" "[LWaxrow$Room;") (by decide +kernel)) (fun _ h9 => h9) rfl dX1_copyFrom_185 ?_
      refine lv_iload_n hx hb dX1_copyFrom_188 rfl (lv_at hl 2 rfl) ?_
      refine hs_aald (L := L2) (σ := σ2) (n := 5) (g := fun j => L2 10 j) hx hb hK (hs_W.kept hW2 (fun q h1 h2 => hS.2.1 q h1 (hdis q h2))) 3 3 hs_ix3 rfl rfl (vp_in_nI (show n < 5 by omega) (by decide)) dX1_copyFrom_189 ?_
      rw [nI_clamp (show n < 2 ^ 31 by omega)]
      refine va_get (D := D) (ci := cRo) (C := RX3) (T := TX3) (N := 2) (ws := [(L2 10 n, hs_ct d L2 σ2 10 n)]) (v := .int (σ2 10 n 1)) hx hb hts (by decide +kernel) hown hK ((hs_W.kept hW2 (fun q h1 h2 => hS.2.1 q h1 (hdis q h2))).one (hs_ix10 (show n < 5 by omega))) 0 rfl rfl 1 (by decide) (hts (.fieldLink RX1 84 "Waxrow$Room" "spots" "I") (by decide +kernel)) (fun _ h9 => h9) rfl dX1_copyFrom_190 ?_
      refine hs_put (ci := cRo) (C := RX3) (T := TX3) (N := 2) (ty := .int) hx hb hts (by decide +kernel) tyX3 tyX3_ok nmX3 hown hK hW hS 10 n (hs_ix10 (show n < 5 by omega)) rfl rfl 1 (by decide) (hts (.fieldLink RX1 84 "Waxrow$Room" "spots" "I") (by decide +kernel)) (fun _ h9 => h9) rfl (by decide +kernel) rfl rfl (Nat.le_of_ble_eq_true rfl) (hs_sg (hs_sg (sp_cpRs (sp_cpFs (sp_cpPs (sp_cpH σ σ2) σ2 P) σ2 F) σ2 n) 10 n 0 (σ2 10 n 0)) 10 n 1 (σ2 10 n 1)) (by simp [hs_ct, hs_sg]) (hs_off _ _ _ _ _) dX1_copyFrom_193 (fun H locs hW hS => ?_)
      refine lv_iinc (v := nI (n + 1)) (lv' := [(2, .int (nI (n + 1))), (0, .ref (L 0 0)), (1, .ref (L2 0 0))]) hx hb dX1_copyFrom_196 hl (k := 2) rfl (nI_succ _).symm (by decide) rfl (fun ls hl => ?_)
      refine lv_goto (tgt := 152) hx hb dX1_copyFrom_199 (by decide) ?_
      have e_s : (hs_sg (hs_sg (sp_cpRs (sp_cpFs (sp_cpPs (sp_cpH σ σ2) σ2 P) σ2 F) σ2 n) 10 n 0 (σ2 10 n 0)) 10 n 1 (σ2 10 n 1)) = (sp_cpRs (sp_cpFs (sp_cpPs (sp_cpH σ σ2) σ2 P) σ2 F) σ2 (n + 1)) := rfl
      rw [e_s] at hW
      exact ih (n + 1) (by omega) _ _ hW hS ls (lv_sub hl [1, 2, 0] rfl)
set_option maxHeartbeats 4000000 in
set_option maxRecDepth 100000 in
/-- House.copyFrom: the loop at 97 -/
theorem lk2X1_copyFrom (l : Launch) (D : va_G) (d : hs_Dm) (L : hs_Lo) (σ : hs_St) (A : Nat → Prop) (L2 : hs_Lo) (σ2 : hs_St) (A2 : Nat → Prop) (hdis : ∀ q, A2 q → ¬ A q) {p : Program} {e : Env} {s : State} {m : MethodId} {args : Array Value} {below : List Frame} {meth : Method} {c : Code} (P F R : Nat) (hok2 : hs_ok P F R σ2) (hliv : ∀ f, f < F → (σ2 9 f 0).toNatClampNeg < P ∧ (σ2 9 f 1).toNatClampNeg < P) (hcb : ∀ q, q < 10 → σ2 4 q 5 = 0 ∨ σ2 4 q 5 = 1)  (hx : p.tables.exec = Jvm.exec) (hb : c.code = cX1_copyFrom) (hr : meth.sig.returnType = none) (hts : ∀ w ∈ wsX1_copyFrom, w.before args s = true) (hown : s.vm.findClass RX1 = some m.cls) (hlocks : meth.locks = false) (hml : c.maxLocals = 4) (hK : va_K D vwCl (hs_ty d) s) (hE : hs_E d.2.2.2.2 A s) (hW2 : hs_W D d L2 σ2 A2 s.heap)  : ∀ (k n : Nat), n + k = F → ∀ (H : Heap) (locs : List Loc), hs_W D d L (sp_cpFs (sp_cpPs (sp_cpH σ σ2) σ2 P) σ2 n) A H → va_S A s.heap H locs → ∀ ls : Array Slot, lv_has ls 4 [(0, .ref (L 0 0)), (1, .ref (L2 0 0)), (2, .int (nI n))] → W p l e ({ frames := 2, cells := 0, slots := 0, locals := 46 } : Room) s m args below meth c H locs 0 0 (MQ below (va_Qv (fun τ => sp_copy σ σ2 P F R = τ) (fun τ t => hs_B D d L τ A t) A) args s 0 0 A) (F0 m 97 ls []) := by
  intro k
  induction k with
  | zero =>
    intro n hn H locs hW hS ls hl
    have h8 := hok2.2.1
    have h10 := hok2.1
    have h5 := hok2.2.2.1
    have hnN : n = F := by omega
    refine lv_iload_n hx hb dX1_copyFrom_97 rfl (lv_at hl 2 rfl) ?_
    refine lv_aload_n hx hb dX1_copyFrom_98 rfl (lv_at hl 0 rfl) ?_
    refine va_get (D := D) (ci := cHo) (C := RX1) (T := TX1) (N := 11) (ws := [(L 0 0, hs_ct d L (sp_cpFs (sp_cpPs (sp_cpH σ σ2) σ2 P) σ2 n) 0 0)]) (v := .int ((sp_cpFs (sp_cpPs (sp_cpH σ σ2) σ2 P) σ2 n) 0 0 4)) hx hb hts (by decide +kernel) hown hK (hW.one hs_ix0) 0 rfl rfl 4 (by decide) (hts (.fieldLink RX1 49 "Waxrow$House" "figureCount" "I") (by decide +kernel)) (fun _ h9 => h9) rfl dX1_copyFrom_99 ?_
    refine lv_icmp_ge (tgt := 150) hx hb dX1_copyFrom_102 (by decide) (fun c_102 => ?_) (fun c_102 => ?_)
    · rw [hnN] at hW
      refine lv_iconst (v := 0) hx hb dX1_copyFrom_150 (by decide) ?_
      refine lv_istore_n (lv' := [(2, .int 0), (0, .ref (L 0 0)), (1, .ref (L2 0 0))]) hx hb dX1_copyFrom_151 rfl hl (by decide) rfl (fun ls hl => ?_)
      exact lk3X1_copyFrom l D d L σ A L2 σ2 A2 hdis P F R hok2 hliv hcb hx hb hr hts hown hlocks hml hK hE hW2 R 0 (by omega) _ _ hW hS ls (lv_sub hl [1, 2, 0] rfl)
    · exact absurd (by rw [(show (sp_cpFs (sp_cpPs (sp_cpH σ σ2) σ2 P) σ2 n) 0 0 4 = nI F by rw [sp_cpFs_off _ _ _ _ _ (by omega), sp_cpPs_off _ _ _ _ _ (by omega)]; simp only [sp_cpH, hs_sg]; exact hok2.hF), hnN]; exact nI_le (Nat.le_refl _) (by omega)) c_102
  | succ k ih =>
    intro n hn H locs hW hS ls hl
    have h8 := hok2.2.1
    have h10 := hok2.1
    have h5 := hok2.2.2.1
    have hnN : n < F := by omega
    refine lv_iload_n hx hb dX1_copyFrom_97 rfl (lv_at hl 2 rfl) ?_
    refine lv_aload_n hx hb dX1_copyFrom_98 rfl (lv_at hl 0 rfl) ?_
    refine va_get (D := D) (ci := cHo) (C := RX1) (T := TX1) (N := 11) (ws := [(L 0 0, hs_ct d L (sp_cpFs (sp_cpPs (sp_cpH σ σ2) σ2 P) σ2 n) 0 0)]) (v := .int ((sp_cpFs (sp_cpPs (sp_cpH σ σ2) σ2 P) σ2 n) 0 0 4)) hx hb hts (by decide +kernel) hown hK (hW.one hs_ix0) 0 rfl rfl 4 (by decide) (hts (.fieldLink RX1 49 "Waxrow$House" "figureCount" "I") (by decide +kernel)) (fun _ h9 => h9) rfl dX1_copyFrom_99 ?_
    refine lv_icmp_ge (tgt := 150) hx hb dX1_copyFrom_102 (by decide) (fun c_102 => ?_) (fun c_102 => ?_)
    · exact absurd (by rw [(show (sp_cpFs (sp_cpPs (sp_cpH σ σ2) σ2 P) σ2 n) 0 0 4 = nI F by rw [sp_cpFs_off _ _ _ _ _ (by omega), sp_cpPs_off _ _ _ _ _ (by omega)]; simp only [sp_cpH, hs_sg]; exact hok2.hF)] at c_102; exact c_102) (nI_ge hnN (by omega))
    · refine lv_aload_n hx hb dX1_copyFrom_105 rfl (lv_at hl 1 rfl) ?_
      refine va_get (D := D) (ci := cHo) (C := RX1) (T := TX1) (N := 11) (ws := [(L2 0 0, hs_ct d L2 σ2 0 0)]) (v := .ref (L2 2 0)) hx hb hts (by decide +kernel) hown hK ((hs_W.kept hW2 (fun q h1 h2 => hS.2.1 q h1 (hdis q h2))).one hs_ix0) 0 rfl rfl 1 (by decide) (hts (.fieldLink RX1 22 "Waxrow$House" "figures" "[LWaxrow$Figure;") (by decide +kernel)) (fun _ h9 => h9) rfl dX1_copyFrom_106 ?_
      refine lv_iload_n hx hb dX1_copyFrom_109 rfl (lv_at hl 2 rfl) ?_
      refine hs_aald (L := L2) (σ := σ2) (n := 8) (g := fun j => L2 9 j) hx hb hK (hs_W.kept hW2 (fun q h1 h2 => hS.2.1 q h1 (hdis q h2))) 2 2 hs_ix2 rfl rfl (vp_in_nI (show n < 8 by omega) (by decide)) dX1_copyFrom_110 ?_
      rw [nI_clamp (show n < 2 ^ 31 by omega)]
      refine lv_astore_n (lv' := [(3, .ref (L2 9 n)), (0, .ref (L 0 0)), (1, .ref (L2 0 0)), (2, .int (nI n))]) hx hb dX1_copyFrom_111 rfl hl (by decide) rfl (fun ls hl => ?_)
      refine lv_aload_n hx hb dX1_copyFrom_112 rfl (lv_at hl 1 rfl) ?_
      refine va_get (D := D) (ci := cHo) (C := RX1) (T := TX1) (N := 11) (ws := [(L 0 0, hs_ct d L (sp_cpFs (sp_cpPs (sp_cpH σ σ2) σ2 P) σ2 n) 0 0)]) (v := .ref (L 2 0)) hx hb hts (by decide +kernel) hown hK (hW.one hs_ix0) 0 rfl rfl 1 (by decide) (hts (.fieldLink RX1 22 "Waxrow$House" "figures" "[LWaxrow$Figure;") (by decide +kernel)) (fun _ h9 => h9) rfl dX1_copyFrom_113 ?_
      refine lv_iload_n hx hb dX1_copyFrom_116 rfl (lv_at hl 3 rfl) ?_
      refine hs_aald (n := 8) (g := fun j => L 9 j) hx hb hK hW 2 2 hs_ix2 rfl rfl (vp_in_nI (show n < 8 by omega) (by decide)) dX1_copyFrom_117 ?_
      rw [nI_clamp (show n < 2 ^ 31 by omega)]
      refine lv_aload_n hx hb dX1_copyFrom_118 rfl (lv_at hl 0 rfl) ?_
      refine lv_aload_n hx hb dX1_copyFrom_119 rfl (lv_at hl 1 rfl) ?_
      refine lv_aload_n hx hb dX1_copyFrom_120 rfl (lv_at hl 0 rfl) ?_
      refine va_get (D := D) (ci := cFi) (C := RX0) (T := TX0) (N := 11) (ws := [(L2 9 n, hs_ct d L2 σ2 9 n)]) (v := .ref (L2 4 ((σ2 9 n 0).toNatClampNeg))) hx hb hts (by decide +kernel) hown hK ((hs_W.kept hW2 (fun q h1 h2 => hS.2.1 q h1 (hdis q h2))).one (hs_ix9 (show n < 8 by omega))) 0 rfl rfl 0 (by decide) (hts (.fieldLink RX1 64 "Waxrow$Figure" "head" "LWaxrow$Person;") (by decide +kernel)) (fun _ h9 => h9) rfl dX1_copyFrom_121 ?_
      refine va_get (D := D) (ci := cPe) (C := RX2) (T := TX2) (N := 8) (ws := [(L2 4 ((σ2 9 n 0).toNatClampNeg), hs_ct d L2 σ2 4 ((σ2 9 n 0).toNatClampNeg))]) (v := .int (nI ((σ2 9 n 0).toNatClampNeg))) hx hb hts (by decide +kernel) hown hK ((hs_W.kept hW2 (fun q h1 h2 => hS.2.1 q h1 (hdis q h2))).one (hs_ix4 ((hok2.hd n (by omega)).1))) 0 rfl rfl 0 (by decide) (hts (.fieldLink RX1 68 "Waxrow$Person" "number" "I") (by decide +kernel)) (fun _ h9 => h9) rfl dX1_copyFrom_124 ?_
      refine hs_callr (As := [.int (nI ((σ2 9 n 0).toNatClampNeg))]) ⟨hx, hb, hml, hown, hts⟩ (kX1_personAt l D d L (sp_cpFs (sp_cpPs (sp_cpH σ σ2) σ2 P) σ2 n) A ((σ2 9 n 0).toNatClampNeg) P (by rw [sp_cpFs_off _ _ _ _ _ (by omega), sp_cpPs_off _ _ _ _ _ (by omega)]; simp only [sp_cpH, hs_sg]; exact hok2.hP) (hliv n hnN).1 hok2.1) (cwV 1 hts gX1_copyFrom_X1_personAt rfl rfl rfl (by decide +kernel) ⟨Nat.le_of_ble_eq_true rfl, Nat.le_of_ble_eq_true rfl⟩) hK hE hW hS hs_ix0 (ci := cHo) (r := (RX1, TX1, 11)) rfl rfl rfl rfl hl.1 (Nat.le_of_ble_eq_true rfl) dX1_copyFrom_127 ⟨Nat.zero_le _, Nat.zero_le _⟩ rfl (fun H locs hW hS => ?_)
      refine lv_aload_n hx hb dX1_copyFrom_130 rfl (lv_at hl 1 rfl) ?_
      refine lv_aload_n hx hb dX1_copyFrom_131 rfl (lv_at hl 0 rfl) ?_
      refine va_get (D := D) (ci := cFi) (C := RX0) (T := TX0) (N := 11) (ws := [(L2 9 n, hs_ct d L2 σ2 9 n)]) (v := .ref (L2 4 ((σ2 9 n 1).toNatClampNeg))) hx hb hts (by decide +kernel) hown hK ((hs_W.kept hW2 (fun q h1 h2 => hS.2.1 q h1 (hdis q h2))).one (hs_ix9 (show n < 8 by omega))) 0 rfl rfl 1 (by decide) (hts (.fieldLink RX1 75 "Waxrow$Figure" "body" "LWaxrow$Person;") (by decide +kernel)) (fun _ h9 => h9) rfl dX1_copyFrom_132 ?_
      refine va_get (D := D) (ci := cPe) (C := RX2) (T := TX2) (N := 8) (ws := [(L2 4 ((σ2 9 n 1).toNatClampNeg), hs_ct d L2 σ2 4 ((σ2 9 n 1).toNatClampNeg))]) (v := .int (nI ((σ2 9 n 1).toNatClampNeg))) hx hb hts (by decide +kernel) hown hK ((hs_W.kept hW2 (fun q h1 h2 => hS.2.1 q h1 (hdis q h2))).one (hs_ix4 ((hok2.hd n (by omega)).2))) 0 rfl rfl 0 (by decide) (hts (.fieldLink RX1 68 "Waxrow$Person" "number" "I") (by decide +kernel)) (fun _ h9 => h9) rfl dX1_copyFrom_135 ?_
      refine hs_callr (As := [.int (nI ((σ2 9 n 1).toNatClampNeg))]) ⟨hx, hb, hml, hown, hts⟩ (kX1_personAt l D d L (sp_cpFs (sp_cpPs (sp_cpH σ σ2) σ2 P) σ2 n) A ((σ2 9 n 1).toNatClampNeg) P (by rw [sp_cpFs_off _ _ _ _ _ (by omega), sp_cpPs_off _ _ _ _ _ (by omega)]; simp only [sp_cpH, hs_sg]; exact hok2.hP) (hliv n hnN).2 hok2.1) (cwV 1 hts gX1_copyFrom_X1_personAt rfl rfl rfl (by decide +kernel) ⟨Nat.le_of_ble_eq_true rfl, Nat.le_of_ble_eq_true rfl⟩) hK hE hW hS hs_ix0 (ci := cHo) (r := (RX1, TX1, 11)) rfl rfl rfl rfl hl.1 (Nat.le_of_ble_eq_true rfl) dX1_copyFrom_138 ⟨Nat.zero_le _, Nat.zero_le _⟩ rfl (fun H locs hW hS => ?_)
      refine hs_callv2 (As := [.ref (L2 9 n), .ref (L 4 ((σ2 9 n 0).toNatClampNeg)), .ref (L 4 ((σ2 9 n 1).toNatClampNeg))]) ⟨hx, hb, hml, hown, hts⟩ (kX0_copyFrom l D d L (sp_cpFs (sp_cpPs (sp_cpH σ σ2) σ2 P) σ2 n) A L2 σ2 A2 hdis n (show n < 8 by omega) ((σ2 9 n 0).toNatClampNeg) ((σ2 9 n 1).toNatClampNeg) (hok2.hd n (by omega)).1 (hok2.hd n (by omega)).2) (cwV 3 hts gX1_copyFrom_X0_copyFrom rfl rfl rfl (by decide +kernel) ⟨Nat.le_of_ble_eq_true rfl, Nat.le_of_ble_eq_true rfl⟩) hW2 hdis hK hE hW hS (hs_ix9 (show n < 8 by omega)) (ci := cFi) (r := (RX0, TX0, 11)) rfl rfl rfl rfl hl.1 (Nat.le_of_ble_eq_true rfl) dX1_copyFrom_141 ⟨Nat.zero_le _, Nat.zero_le _⟩ rfl (fun τ_ H locs hp hW hS => ?_)
      obtain rfl := hp
      refine lv_iinc (v := nI (n + 1)) (lv' := [(2, .int (nI (n + 1))), (3, .ref (L2 9 n)), (0, .ref (L 0 0)), (1, .ref (L2 0 0))]) hx hb dX1_copyFrom_144 hl (k := 3) rfl (nI_succ _).symm (by decide) rfl (fun ls hl => ?_)
      refine lv_goto (tgt := 97) hx hb dX1_copyFrom_147 (by decide) ?_
      have e_s : (sp_cpF (sp_cpFs (sp_cpPs (sp_cpH σ σ2) σ2 P) σ2 n) σ2 n ((σ2 9 n 0).toNatClampNeg) ((σ2 9 n 1).toNatClampNeg)) = (sp_cpFs (sp_cpPs (sp_cpH σ σ2) σ2 P) σ2 (n + 1)) := rfl
      rw [e_s] at hW
      exact ih (n + 1) (by omega) _ _ hW hS ls (lv_sub hl [2, 3, 0] rfl)
set_option maxHeartbeats 4000000 in
set_option maxRecDepth 100000 in
/-- House.copyFrom: the loop at 66 -/
theorem lk1X1_copyFrom (l : Launch) (D : va_G) (d : hs_Dm) (L : hs_Lo) (σ : hs_St) (A : Nat → Prop) (L2 : hs_Lo) (σ2 : hs_St) (A2 : Nat → Prop) (hdis : ∀ q, A2 q → ¬ A q) {p : Program} {e : Env} {s : State} {m : MethodId} {args : Array Value} {below : List Frame} {meth : Method} {c : Code} (P F R : Nat) (hok2 : hs_ok P F R σ2) (hliv : ∀ f, f < F → (σ2 9 f 0).toNatClampNeg < P ∧ (σ2 9 f 1).toNatClampNeg < P) (hcb : ∀ q, q < 10 → σ2 4 q 5 = 0 ∨ σ2 4 q 5 = 1)  (hx : p.tables.exec = Jvm.exec) (hb : c.code = cX1_copyFrom) (hr : meth.sig.returnType = none) (hts : ∀ w ∈ wsX1_copyFrom, w.before args s = true) (hown : s.vm.findClass RX1 = some m.cls) (hlocks : meth.locks = false) (hml : c.maxLocals = 4) (hK : va_K D vwCl (hs_ty d) s) (hE : hs_E d.2.2.2.2 A s) (hW2 : hs_W D d L2 σ2 A2 s.heap)  : ∀ (k n : Nat), n + k = P → ∀ (H : Heap) (locs : List Loc), hs_W D d L (sp_cpPs (sp_cpH σ σ2) σ2 n) A H → va_S A s.heap H locs → ∀ ls : Array Slot, lv_has ls 4 [(0, .ref (L 0 0)), (1, .ref (L2 0 0)), (2, .int (nI n))] → W p l e ({ frames := 2, cells := 0, slots := 0, locals := 46 } : Room) s m args below meth c H locs 0 0 (MQ below (va_Qv (fun τ => sp_copy σ σ2 P F R = τ) (fun τ t => hs_B D d L τ A t) A) args s 0 0 A) (F0 m 66 ls []) := by
  intro k
  induction k with
  | zero =>
    intro n hn H locs hW hS ls hl
    have h8 := hok2.2.1
    have h10 := hok2.1
    have h5 := hok2.2.2.1
    have hnN : n = P := by omega
    refine lv_iload_n hx hb dX1_copyFrom_66 rfl (lv_at hl 2 rfl) ?_
    refine lv_aload_n hx hb dX1_copyFrom_67 rfl (lv_at hl 0 rfl) ?_
    refine va_get (D := D) (ci := cHo) (C := RX1) (T := TX1) (N := 11) (ws := [(L 0 0, hs_ct d L (sp_cpPs (sp_cpH σ σ2) σ2 n) 0 0)]) (v := .int ((sp_cpPs (sp_cpH σ σ2) σ2 n) 0 0 3)) hx hb hts (by decide +kernel) hown hK (hW.one hs_ix0) 0 rfl rfl 3 (by decide) (hts (.fieldLink RX1 46 "Waxrow$House" "personCount" "I") (by decide +kernel)) (fun _ h9 => h9) rfl dX1_copyFrom_68 ?_
    refine lv_icmp_ge (tgt := 95) hx hb dX1_copyFrom_71 (by decide) (fun c_71 => ?_) (fun c_71 => ?_)
    · rw [hnN] at hW
      refine lv_iconst (v := 0) hx hb dX1_copyFrom_95 (by decide) ?_
      refine lv_istore_n (lv' := [(2, .int 0), (0, .ref (L 0 0)), (1, .ref (L2 0 0))]) hx hb dX1_copyFrom_96 rfl hl (by decide) rfl (fun ls hl => ?_)
      exact lk2X1_copyFrom l D d L σ A L2 σ2 A2 hdis P F R hok2 hliv hcb hx hb hr hts hown hlocks hml hK hE hW2 F 0 (by omega) _ _ hW hS ls (lv_sub hl [1, 2, 0] rfl)
    · exact absurd (by rw [(show (sp_cpPs (sp_cpH σ σ2) σ2 n) 0 0 3 = nI P by rw [sp_cpPs_off _ _ _ _ _ (by omega)]; simp only [sp_cpH, hs_sg]; exact hok2.hP), hnN]; exact nI_le (Nat.le_refl _) (by omega)) c_71
  | succ k ih =>
    intro n hn H locs hW hS ls hl
    have h8 := hok2.2.1
    have h10 := hok2.1
    have h5 := hok2.2.2.1
    have hnN : n < P := by omega
    refine lv_iload_n hx hb dX1_copyFrom_66 rfl (lv_at hl 2 rfl) ?_
    refine lv_aload_n hx hb dX1_copyFrom_67 rfl (lv_at hl 0 rfl) ?_
    refine va_get (D := D) (ci := cHo) (C := RX1) (T := TX1) (N := 11) (ws := [(L 0 0, hs_ct d L (sp_cpPs (sp_cpH σ σ2) σ2 n) 0 0)]) (v := .int ((sp_cpPs (sp_cpH σ σ2) σ2 n) 0 0 3)) hx hb hts (by decide +kernel) hown hK (hW.one hs_ix0) 0 rfl rfl 3 (by decide) (hts (.fieldLink RX1 46 "Waxrow$House" "personCount" "I") (by decide +kernel)) (fun _ h9 => h9) rfl dX1_copyFrom_68 ?_
    refine lv_icmp_ge (tgt := 95) hx hb dX1_copyFrom_71 (by decide) (fun c_71 => ?_) (fun c_71 => ?_)
    · exact absurd (by rw [(show (sp_cpPs (sp_cpH σ σ2) σ2 n) 0 0 3 = nI P by rw [sp_cpPs_off _ _ _ _ _ (by omega)]; simp only [sp_cpH, hs_sg]; exact hok2.hP)] at c_71; exact c_71) (nI_ge hnN (by omega))
    · refine lv_aload_n hx hb dX1_copyFrom_74 rfl (lv_at hl 0 rfl) ?_
      refine va_get (D := D) (ci := cHo) (C := RX1) (T := TX1) (N := 11) (ws := [(L 0 0, hs_ct d L (sp_cpPs (sp_cpH σ σ2) σ2 n) 0 0)]) (v := .ref (L 1 0)) hx hb hts (by decide +kernel) hown hK (hW.one hs_ix0) 0 rfl rfl 0 (by decide) (hts (.fieldLink RX1 11 "Waxrow$House" "persons" "[LWaxrow$Person;") (by decide +kernel)) (fun _ h9 => h9) rfl dX1_copyFrom_75 ?_
      refine lv_iload_n hx hb dX1_copyFrom_78 rfl (lv_at hl 2 rfl) ?_
      refine hs_aald (n := 10) (g := fun j => L 4 j) hx hb hK hW 1 1 hs_ix1 rfl rfl (vp_in_nI (show n < 10 by omega) (by decide)) dX1_copyFrom_79 ?_
      rw [nI_clamp (show n < 2 ^ 31 by omega)]
      refine lv_aload_n hx hb dX1_copyFrom_80 rfl (lv_at hl 1 rfl) ?_
      refine va_get (D := D) (ci := cHo) (C := RX1) (T := TX1) (N := 11) (ws := [(L2 0 0, hs_ct d L2 σ2 0 0)]) (v := .ref (L2 1 0)) hx hb hts (by decide +kernel) hown hK ((hs_W.kept hW2 (fun q h1 h2 => hS.2.1 q h1 (hdis q h2))).one hs_ix0) 0 rfl rfl 0 (by decide) (hts (.fieldLink RX1 11 "Waxrow$House" "persons" "[LWaxrow$Person;") (by decide +kernel)) (fun _ h9 => h9) rfl dX1_copyFrom_81 ?_
      refine lv_iload_n hx hb dX1_copyFrom_84 rfl (lv_at hl 2 rfl) ?_
      refine hs_aald (L := L2) (σ := σ2) (n := 10) (g := fun j => L2 4 j) hx hb hK (hs_W.kept hW2 (fun q h1 h2 => hS.2.1 q h1 (hdis q h2))) 1 1 hs_ix1 rfl rfl (vp_in_nI (show n < 10 by omega) (by decide)) dX1_copyFrom_85 ?_
      rw [nI_clamp (show n < 2 ^ 31 by omega)]
      refine hs_callv2 (As := [.ref (L2 4 n)]) ⟨hx, hb, hml, hown, hts⟩ (kX2_copyFrom l D d L (sp_cpPs (sp_cpH σ σ2) σ2 n) A L2 σ2 A2 hdis n (show n < 10 by omega) (hcb n (by omega))) (cwV 1 hts gX1_copyFrom_X2_copyFrom rfl rfl rfl (by decide +kernel) ⟨Nat.le_of_ble_eq_true rfl, Nat.le_of_ble_eq_true rfl⟩) hW2 hdis hK hE hW hS (hs_ix4 (show n < 10 by omega)) (ci := cPe) (r := (RX2, TX2, 8)) rfl rfl rfl rfl hl.1 (Nat.le_of_ble_eq_true rfl) dX1_copyFrom_86 ⟨Nat.zero_le _, Nat.zero_le _⟩ rfl (fun τ_ H locs hp hW hS => ?_)
      obtain rfl := hp
      refine lv_iinc (v := nI (n + 1)) (lv' := [(2, .int (nI (n + 1))), (0, .ref (L 0 0)), (1, .ref (L2 0 0))]) hx hb dX1_copyFrom_89 hl (k := 2) rfl (nI_succ _).symm (by decide) rfl (fun ls hl => ?_)
      refine lv_goto (tgt := 66) hx hb dX1_copyFrom_92 (by decide) ?_
      have e_s : (sp_cpP (sp_cpPs (sp_cpH σ σ2) σ2 n) σ2 n) = (sp_cpPs (sp_cpH σ σ2) σ2 (n + 1)) := rfl
      rw [e_s] at hW
      exact ih (n + 1) (by omega) _ _ hW hS ls (lv_sub hl [1, 2, 0] rfl)
set_option maxHeartbeats 4000000 in
set_option maxRecDepth 100000 in
/-- House.copyFrom -/
theorem kX1_copyFrom (l : Launch) (D : va_G) (d : hs_Dm) (L : hs_Lo) (σ : hs_St) (A : Nat → Prop) (L2 : hs_Lo) (σ2 : hs_St) (A2 : Nat → Prop) (hdis : ∀ q, A2 q → ¬ A q) (P F R : Nat) (hok2 : hs_ok P F R σ2) (hliv : ∀ f, f < F → (σ2 9 f 0).toNatClampNeg < P ∧ (σ2 9 f 1).toNatClampNeg < P) (hcb : ∀ q, q < 10 → σ2 4 q 5 = 0 ∨ σ2 4 q 5 = 1) : hs_M2v l yX1_copyFrom wsX1_copyFrom ({ frames := 2, cells := 0, slots := 0, locals := 46 }) D d L σ A L2 σ2 A2 [.ref (L 0 0), .ref (L2 0 0)] (fun τ => sp_copy σ σ2 P F R = τ) := by
  refine Met.ofW (cc := cX1_copyFrom) (maxL := 4) (ret := none) (by decide) rfl ?_
  intro p e s m args below meth c s₁ B hml hv
  obtain ⟨rfl, ⟨⟨hW, hK⟩, hE⟩, hW2⟩ := hv
  have hx := B.exec
  have hb := B.bytes
  have hr := B.returns
  have hts := atoms_spec (ws := wsX1_copyFrom) B.pre
  have hown : s.vm.findClass RX1 = some m.cls := findClass_of_methodNamed B.named
  have hlocks := B.notSynchronized
  have hS : va_S A s.heap s.heap [] := va_S.rf
  have hW : hs_W D d L σ A s.heap := hW
  have hl := lv_entry ([.ref (L 0 0), .ref (L2 0 0)]) (n := 4) (Nat.le_of_ble_eq_true rfl)
  rw [lg_entry_eq]
  generalize (lg_sl ([.ref (L 0 0), .ref (L2 0 0)]) ++ List.replicate (4 - (lg_sl ([.ref (L 0 0), .ref (L2 0 0)])).length) Slot.unset).toArray = ls at hl ⊢
  have hl : lv_has ls 4 [(0, .ref (L 0 0)), (1, .ref (L2 0 0))] := hl
  have h8 := hok2.2.1
  have h10 := hok2.1
  have h5 := hok2.2.2.1
  refine lv_aload_n hx hb dX1_copyFrom_0 rfl (lv_at hl 0 rfl) ?_
  refine lv_aload_n hx hb dX1_copyFrom_1 rfl (lv_at hl 1 rfl) ?_
  refine va_get (D := D) (ci := cHo) (C := RX1) (T := TX1) (N := 11) (ws := [(L2 0 0, hs_ct d L2 σ2 0 0)]) (v := .int (σ2 0 0 3)) hx hb hts (by decide +kernel) hown hK ((hs_W.kept hW2 (fun q h1 h2 => hS.2.1 q h1 (hdis q h2))).one hs_ix0) 0 rfl rfl 3 (by decide) (hts (.fieldLink RX1 46 "Waxrow$House" "personCount" "I") (by decide +kernel)) (fun _ h9 => h9) rfl dX1_copyFrom_2 ?_
  refine hs_put (ci := cHo) (C := RX1) (T := TX1) (N := 11) (ty := .int) hx hb hts (by decide +kernel) tyX1 tyX1_ok nmX1 hown hK hW hS 0 0 hs_ix0 rfl rfl 3 (by decide) (hts (.fieldLink RX1 46 "Waxrow$House" "personCount" "I") (by decide +kernel)) (fun _ h9 => h9) rfl (by decide +kernel) rfl rfl (Nat.le_of_ble_eq_true rfl) (hs_sg σ 0 0 3 (σ2 0 0 3)) (by simp [hs_ct, hs_sg]) (hs_off _ _ _ _ _) dX1_copyFrom_5 (fun H locs hW hS => ?_)
  refine lv_aload_n hx hb dX1_copyFrom_8 rfl (lv_at hl 0 rfl) ?_
  refine lv_aload_n hx hb dX1_copyFrom_9 rfl (lv_at hl 1 rfl) ?_
  refine va_get (D := D) (ci := cHo) (C := RX1) (T := TX1) (N := 11) (ws := [(L2 0 0, hs_ct d L2 σ2 0 0)]) (v := .int (σ2 0 0 4)) hx hb hts (by decide +kernel) hown hK ((hs_W.kept hW2 (fun q h1 h2 => hS.2.1 q h1 (hdis q h2))).one hs_ix0) 0 rfl rfl 4 (by decide) (hts (.fieldLink RX1 49 "Waxrow$House" "figureCount" "I") (by decide +kernel)) (fun _ h9 => h9) rfl dX1_copyFrom_10 ?_
  refine hs_put (ci := cHo) (C := RX1) (T := TX1) (N := 11) (ty := .int) hx hb hts (by decide +kernel) tyX1 tyX1_ok nmX1 hown hK hW hS 0 0 hs_ix0 rfl rfl 4 (by decide) (hts (.fieldLink RX1 49 "Waxrow$House" "figureCount" "I") (by decide +kernel)) (fun _ h9 => h9) rfl (by decide +kernel) rfl rfl (Nat.le_of_ble_eq_true rfl) (hs_sg (hs_sg σ 0 0 3 (σ2 0 0 3)) 0 0 4 (σ2 0 0 4)) (by simp [hs_ct, hs_sg]) (hs_off _ _ _ _ _) dX1_copyFrom_13 (fun H locs hW hS => ?_)
  refine lv_aload_n hx hb dX1_copyFrom_16 rfl (lv_at hl 0 rfl) ?_
  refine lv_aload_n hx hb dX1_copyFrom_17 rfl (lv_at hl 1 rfl) ?_
  refine va_get (D := D) (ci := cHo) (C := RX1) (T := TX1) (N := 11) (ws := [(L2 0 0, hs_ct d L2 σ2 0 0)]) (v := .int (σ2 0 0 5)) hx hb hts (by decide +kernel) hown hK ((hs_W.kept hW2 (fun q h1 h2 => hS.2.1 q h1 (hdis q h2))).one hs_ix0) 0 rfl rfl 5 (by decide) (hts (.fieldLink RX1 52 "Waxrow$House" "roomCount" "I") (by decide +kernel)) (fun _ h9 => h9) rfl dX1_copyFrom_18 ?_
  refine hs_put (ci := cHo) (C := RX1) (T := TX1) (N := 11) (ty := .int) hx hb hts (by decide +kernel) tyX1 tyX1_ok nmX1 hown hK hW hS 0 0 hs_ix0 rfl rfl 5 (by decide) (hts (.fieldLink RX1 52 "Waxrow$House" "roomCount" "I") (by decide +kernel)) (fun _ h9 => h9) rfl (by decide +kernel) rfl rfl (Nat.le_of_ble_eq_true rfl) (hs_sg (hs_sg (hs_sg σ 0 0 3 (σ2 0 0 3)) 0 0 4 (σ2 0 0 4)) 0 0 5 (σ2 0 0 5)) (by simp [hs_ct, hs_sg]) (hs_off _ _ _ _ _) dX1_copyFrom_21 (fun H locs hW hS => ?_)
  refine lv_aload_n hx hb dX1_copyFrom_24 rfl (lv_at hl 0 rfl) ?_
  refine lv_aload_n hx hb dX1_copyFrom_25 rfl (lv_at hl 1 rfl) ?_
  refine va_get (D := D) (ci := cHo) (C := RX1) (T := TX1) (N := 11) (ws := [(L2 0 0, hs_ct d L2 σ2 0 0)]) (v := .int (σ2 0 0 6)) hx hb hts (by decide +kernel) hown hK ((hs_W.kept hW2 (fun q h1 h2 => hS.2.1 q h1 (hdis q h2))).one hs_ix0) 0 rfl rfl 6 (by decide) (hts (.fieldLink RX1 55 "Waxrow$House" "day" "I") (by decide +kernel)) (fun _ h9 => h9) rfl dX1_copyFrom_26 ?_
  refine hs_put (ci := cHo) (C := RX1) (T := TX1) (N := 11) (ty := .int) hx hb hts (by decide +kernel) tyX1 tyX1_ok nmX1 hown hK hW hS 0 0 hs_ix0 rfl rfl 6 (by decide) (hts (.fieldLink RX1 55 "Waxrow$House" "day" "I") (by decide +kernel)) (fun _ h9 => h9) rfl (by decide +kernel) rfl rfl (Nat.le_of_ble_eq_true rfl) (hs_sg (hs_sg (hs_sg (hs_sg σ 0 0 3 (σ2 0 0 3)) 0 0 4 (σ2 0 0 4)) 0 0 5 (σ2 0 0 5)) 0 0 6 (σ2 0 0 6)) (by simp [hs_ct, hs_sg]) (hs_off _ _ _ _ _) dX1_copyFrom_29 (fun H locs hW hS => ?_)
  refine lv_aload_n hx hb dX1_copyFrom_32 rfl (lv_at hl 0 rfl) ?_
  refine lv_aload_n hx hb dX1_copyFrom_33 rfl (lv_at hl 1 rfl) ?_
  refine va_get (D := D) (ci := cHo) (C := RX1) (T := TX1) (N := 11) (ws := [(L2 0 0, hs_ct d L2 σ2 0 0)]) (v := .int (σ2 0 0 7)) hx hb hts (by decide +kernel) hown hK ((hs_W.kept hW2 (fun q h1 h2 => hS.2.1 q h1 (hdis q h2))).one hs_ix0) 0 rfl rfl 7 (by decide) (hts (.fieldLink RX1 36 "Waxrow$House" "money" "I") (by decide +kernel)) (fun _ h9 => h9) rfl dX1_copyFrom_34 ?_
  refine hs_put (ci := cHo) (C := RX1) (T := TX1) (N := 11) (ty := .int) hx hb hts (by decide +kernel) tyX1 tyX1_ok nmX1 hown hK hW hS 0 0 hs_ix0 rfl rfl 7 (by decide) (hts (.fieldLink RX1 36 "Waxrow$House" "money" "I") (by decide +kernel)) (fun _ h9 => h9) rfl (by decide +kernel) rfl rfl (Nat.le_of_ble_eq_true rfl) (hs_sg (hs_sg (hs_sg (hs_sg (hs_sg σ 0 0 3 (σ2 0 0 3)) 0 0 4 (σ2 0 0 4)) 0 0 5 (σ2 0 0 5)) 0 0 6 (σ2 0 0 6)) 0 0 7 (σ2 0 0 7)) (by simp [hs_ct, hs_sg]) (hs_off _ _ _ _ _) dX1_copyFrom_37 (fun H locs hW hS => ?_)
  refine lv_aload_n hx hb dX1_copyFrom_40 rfl (lv_at hl 0 rfl) ?_
  refine lv_aload_n hx hb dX1_copyFrom_41 rfl (lv_at hl 1 rfl) ?_
  refine va_get (D := D) (ci := cHo) (C := RX1) (T := TX1) (N := 11) (ws := [(L2 0 0, hs_ct d L2 σ2 0 0)]) (v := .int (σ2 0 0 8)) hx hb hts (by decide +kernel) hown hK ((hs_W.kept hW2 (fun q h1 h2 => hS.2.1 q h1 (hdis q h2))).one hs_ix0) 0 rfl rfl 8 (by decide) (hts (.fieldLink RX1 40 "Waxrow$House" "wax" "I") (by decide +kernel)) (fun _ h9 => h9) rfl dX1_copyFrom_42 ?_
  refine hs_put (ci := cHo) (C := RX1) (T := TX1) (N := 11) (ty := .int) hx hb hts (by decide +kernel) tyX1 tyX1_ok nmX1 hown hK hW hS 0 0 hs_ix0 rfl rfl 8 (by decide) (hts (.fieldLink RX1 40 "Waxrow$House" "wax" "I") (by decide +kernel)) (fun _ h9 => h9) rfl (by decide +kernel) rfl rfl (Nat.le_of_ble_eq_true rfl) (hs_sg (hs_sg (hs_sg (hs_sg (hs_sg (hs_sg σ 0 0 3 (σ2 0 0 3)) 0 0 4 (σ2 0 0 4)) 0 0 5 (σ2 0 0 5)) 0 0 6 (σ2 0 0 6)) 0 0 7 (σ2 0 0 7)) 0 0 8 (σ2 0 0 8)) (by simp [hs_ct, hs_sg]) (hs_off _ _ _ _ _) dX1_copyFrom_45 (fun H locs hW hS => ?_)
  refine lv_aload_n hx hb dX1_copyFrom_48 rfl (lv_at hl 0 rfl) ?_
  refine lv_aload_n hx hb dX1_copyFrom_49 rfl (lv_at hl 1 rfl) ?_
  refine va_get (D := D) (ci := cHo) (C := RX1) (T := TX1) (N := 11) (ws := [(L2 0 0, hs_ct d L2 σ2 0 0)]) (v := .int (σ2 0 0 9)) hx hb hts (by decide +kernel) hown hK ((hs_W.kept hW2 (fun q h1 h2 => hS.2.1 q h1 (hdis q h2))).one hs_ix0) 0 rfl rfl 9 (by decide) (hts (.fieldLink RX1 43 "Waxrow$House" "price" "I") (by decide +kernel)) (fun _ h9 => h9) rfl dX1_copyFrom_50 ?_
  refine hs_put (ci := cHo) (C := RX1) (T := TX1) (N := 11) (ty := .int) hx hb hts (by decide +kernel) tyX1 tyX1_ok nmX1 hown hK hW hS 0 0 hs_ix0 rfl rfl 9 (by decide) (hts (.fieldLink RX1 43 "Waxrow$House" "price" "I") (by decide +kernel)) (fun _ h9 => h9) rfl (by decide +kernel) rfl rfl (Nat.le_of_ble_eq_true rfl) (hs_sg (hs_sg (hs_sg (hs_sg (hs_sg (hs_sg (hs_sg σ 0 0 3 (σ2 0 0 3)) 0 0 4 (σ2 0 0 4)) 0 0 5 (σ2 0 0 5)) 0 0 6 (σ2 0 0 6)) 0 0 7 (σ2 0 0 7)) 0 0 8 (σ2 0 0 8)) 0 0 9 (σ2 0 0 9)) (by simp [hs_ct, hs_sg]) (hs_off _ _ _ _ _) dX1_copyFrom_53 (fun H locs hW hS => ?_)
  refine lv_aload_n hx hb dX1_copyFrom_56 rfl (lv_at hl 0 rfl) ?_
  refine lv_aload_n hx hb dX1_copyFrom_57 rfl (lv_at hl 1 rfl) ?_
  refine va_get (D := D) (ci := cHo) (C := RX1) (T := TX1) (N := 11) (ws := [(L2 0 0, hs_ct d L2 σ2 0 0)]) (v := .int (σ2 0 0 10)) hx hb hts (by decide +kernel) hown hK ((hs_W.kept hW2 (fun q h1 h2 => hS.2.1 q h1 (hdis q h2))).one hs_ix0) 0 rfl rfl 10 (by decide) (hts (.fieldLink RX1 58 "Waxrow$House" "came" "I") (by decide +kernel)) (fun _ h9 => h9) rfl dX1_copyFrom_58 ?_
  refine hs_put (ci := cHo) (C := RX1) (T := TX1) (N := 11) (ty := .int) hx hb hts (by decide +kernel) tyX1 tyX1_ok nmX1 hown hK hW hS 0 0 hs_ix0 rfl rfl 10 (by decide) (hts (.fieldLink RX1 58 "Waxrow$House" "came" "I") (by decide +kernel)) (fun _ h9 => h9) rfl (by decide +kernel) rfl rfl (Nat.le_of_ble_eq_true rfl) (hs_sg (hs_sg (hs_sg (hs_sg (hs_sg (hs_sg (hs_sg (hs_sg σ 0 0 3 (σ2 0 0 3)) 0 0 4 (σ2 0 0 4)) 0 0 5 (σ2 0 0 5)) 0 0 6 (σ2 0 0 6)) 0 0 7 (σ2 0 0 7)) 0 0 8 (σ2 0 0 8)) 0 0 9 (σ2 0 0 9)) 0 0 10 (σ2 0 0 10)) (by simp [hs_ct, hs_sg]) (hs_off _ _ _ _ _) dX1_copyFrom_61 (fun H locs hW hS => ?_)
  refine lv_iconst (v := 0) hx hb dX1_copyFrom_64 (by decide) ?_
  refine lv_istore_n (lv' := [(2, .int 0), (0, .ref (L 0 0)), (1, .ref (L2 0 0))]) hx hb dX1_copyFrom_65 rfl hl (by decide) rfl (fun ls hl => ?_)
  exact lk1X1_copyFrom l D d L σ A L2 σ2 A2 hdis P F R hok2 hliv hcb hx hb hr hts hown hlocks hml hK hE hW2 P 0 (by omega) _ _ hW hS ls (lv_sub hl [1, 2, 0] rfl)
