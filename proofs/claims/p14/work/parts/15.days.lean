/-! THE HOUSE: its days -/
def hs_ok (P F R : Nat) (σ : hs_St) : Prop := P ≤ 10 ∧ F ≤ 8 ∧ R ≤ 5 ∧ σ 0 0 3 = nI P ∧ σ 0 0 4 = nI F ∧ σ 0 0 5 = nI R ∧ ∀ f, f < 8 → ((σ 9 f 0).toNatClampNeg < 10 ∧ (σ 9 f 1).toNatClampNeg < 10) ∧ (∃ j, j ≤ 6 ∧ σ 9 f 2 = nI j) ∧ (σ 9 f 7 < 0 ∨ 5 ≤ σ 9 f 7 ∨ ∃ r, r < R ∧ σ 9 f 7 = nI r)
theorem hs_ok.hP {P F R : Nat} {σ : hs_St} (h : hs_ok P F R σ) : σ 0 0 3 = nI P := h.2.2.2.1
theorem hs_ok.hF {P F R : Nat} {σ : hs_St} (h : hs_ok P F R σ) : σ 0 0 4 = nI F := h.2.2.2.2.1
theorem hs_ok.hR {P F R : Nat} {σ : hs_St} (h : hs_ok P F R σ) : σ 0 0 5 = nI R := h.2.2.2.2.2.1
theorem hs_ok.hd {P F R : Nat} {σ : hs_St} (h : hs_ok P F R σ) : hs_hd σ := fun f hf => (h.2.2.2.2.2.2 f hf).1
theorem hs_ok.st {P F R : Nat} {σ : hs_St} (h : hs_ok P F R σ) {f : Nat} (hf : f < 8) : ∃ j, j ≤ 6 ∧ σ 9 f 2 = nI j := (h.2.2.2.2.2.2 f hf).2.1
theorem hs_ok.at {P F R : Nat} {σ : hs_St} (h : hs_ok P F R σ) {f : Nat} (hf : f < 8) (hs : ¬ sp_isShown σ f = 0) : ∃ r, r < R ∧ σ 9 f 7 = nI r := by
  rcases (h.2.2.2.2.2.2 f hf).2.2 with q | q | q
  · exact absurd (if_pos q) hs
  · refine absurd ?_ hs
    unfold sp_isShown
    split
    · rfl
    · first | rfl | rw [if_pos q]
  · exact q
theorem hs_ok.of {P F R : Nat} {σ τ : hs_St} (h : hs_ok P F R σ) (h0 : τ 0 0 3 = σ 0 0 3 ∧ τ 0 0 4 = σ 0 0 4 ∧ τ 0 0 5 = σ 0 0 5) (h9 : ∀ f, f < 8 → τ 9 f 0 = σ 9 f 0 ∧ τ 9 f 1 = σ 9 f 1 ∧ (τ 9 f 2 = σ 9 f 2 ∨ ∃ j, j ≤ 6 ∧ τ 9 f 2 = nI j) ∧ (τ 9 f 7 = σ 9 f 7 ∨ 5 ≤ τ 9 f 7)) : hs_ok P F R τ := by
  obtain ⟨a1, a2, a3, a4, a5, a6, a7⟩ := h
  refine ⟨a1, a2, a3, h0.1.trans a4, h0.2.1.trans a5, h0.2.2.trans a6, fun f hf => ?_⟩
  obtain ⟨b0, b1, b2, b7⟩ := h9 f hf
  obtain ⟨c0, c2, c7⟩ := a7 f hf
  refine ⟨by rw [b0, b1]; exact c0, ?_, ?_⟩
  · rcases b2 with b2 | b2
    · rw [b2]; exact c2
    · exact b2
  · rcases b7 with b7 | b7
    · rw [b7]; exact c7
    · exact Or.inr (Or.inl b7)
theorem sp_mon_off (σ : hs_St) (q k i j : Nat) (h : k ≠ 5 ∧ k ≠ 6) : ∀ n, sp_mon σ q n k i j = σ k i j
  | 0 => rfl
  | n + 1 => by
    simp only [sp_mon, hs_sg]
    rw [if_neg (by omega), if_neg (by omega)]
    exact sp_mon_off σ q k i j h n
theorem sp_climb_off (f k i j : Nat) (h : ¬ (k = 9 ∧ i = f) ∨ ¬ (j = 2 ∨ j = 3 ∨ j = 5)) : ∀ (n : Nat) (τ : hs_St), sp_climb f n τ k i j = τ k i j
  | 0, _ => rfl
  | n + 1, τ => by
    simp only [sp_climb]
    split
    · rfl
    · split
      · rfl
      · rw [sp_climb_off f k i j h n, sp_step_off τ f k i j h]
theorem sp_climb_st (f : Nat) : ∀ (n j : Nat) (τ : hs_St), j + n ≤ 6 → τ 9 f 2 = nI j → ∃ j', j' ≤ 6 ∧ sp_climb f n τ 9 f 2 = nI j'
  | 0, j, τ, h, e => ⟨j, by omega, e⟩
  | n + 1, j, τ, h, e => by
    simp only [sp_climb]
    split
    · exact ⟨j, by omega, e⟩
    · split
      · exact ⟨j, by omega, e⟩
      · exact sp_climb_st f n (j + 1) _ (by omega) (by rw [sp_step_at, e, nI_1])
theorem sp_wd_off (σ : hs_St) (f k i j : Nat) (h : ¬ (k = 9 ∧ i = f) ∨ ¬ (j = 2 ∨ j = 3 ∨ j = 4 ∨ j = 5)) : (sp_wd σ f).2 k i j = σ k i j := by
  unfold sp_wd
  split
  · rfl
  · split
    · rfl
    · unfold sp_fin
      split
      · simp only [hs_sg]
        rw [if_neg (by omega), if_neg (by omega), sp_climb_off f k i j (by omega)]
        simp only [hs_sg]
        rw [if_neg (by omega)]
      · show sp_climb f _ _ k i j = _
        rw [sp_climb_off f k i j (by omega)]
        simp only [hs_sg]
        rw [if_neg (by omega)]
theorem sp_wd_st {σ : hs_St} {f : Nat} (h : ∃ j, j ≤ 6 ∧ σ 9 f 2 = nI j) : ∃ j, j ≤ 6 ∧ (sp_wd σ f).2 9 f 2 = nI j := by
  unfold sp_wd
  split
  · exact h
  · split
    · exact h
    · obtain ⟨j, hj, ej⟩ := h
      have key := sp_climb_st f (6 - (σ 9 f 2).toNatClampNeg) j (hs_sg σ 9 f 3 (σ 9 f 3 + σ 9 f 4)) (by rw [ej, nI_clamp (by omega)]; omega) (by simp [hs_sg, ej])
      unfold sp_fin
      split
      · obtain ⟨j', h1, h2⟩ := key
        exact ⟨j', h1, by simpa [hs_sg] using h2⟩
      · exact key
theorem sp_wd_ok {P F R : Nat} {σ : hs_St} (f : Nat) (h : hs_ok P F R σ) (hf : f < 8) : hs_ok P F R (sp_wd σ f).2 := by
  refine h.of ⟨sp_wd_off _ _ _ _ _ (by omega), sp_wd_off _ _ _ _ _ (by omega), sp_wd_off _ _ _ _ _ (by omega)⟩ (fun i hi => ⟨sp_wd_off _ _ _ _ _ (by omega), sp_wd_off _ _ _ _ _ (by omega), ?_, Or.inl (sp_wd_off _ _ _ _ _ (by omega))⟩)
  by_cases e : i = f
  · subst e
    exact Or.inr (sp_wd_st (h.st hi))
  · exact Or.inl (sp_wd_off _ _ _ _ _ (by omega))
theorem sp_worn_off (σ : hs_St) (f k i j : Nat) (x y z : Int32) (h : (k ≠ 4 ∧ k ≠ 9) ∨ (k = 9 ∧ j ≠ 6 ∧ j ≠ 10)) : sp_worn σ f x y z k i j = σ k i j := by
  simp only [sp_worn, hs_sg]
  rw [if_neg (by omega), if_neg (by omega), if_neg (by omega)]
theorem sp_wear_ok {P F R : Nat} {σ : hs_St} (f : Nat) (x y z : Int32) (h : hs_ok P F R σ) : hs_ok P F R (sp_wear σ f x y z).2 := by
  have hw : hs_ok P F R (sp_worn σ f x y z) := h.of ⟨sp_worn_off _ _ _ _ _ _ _ _ (by omega), sp_worn_off _ _ _ _ _ _ _ _ (by omega), sp_worn_off _ _ _ _ _ _ _ _ (by omega)⟩ (fun i hi => ⟨sp_worn_off _ _ _ _ _ _ _ _ (by omega), sp_worn_off _ _ _ _ _ _ _ _ (by omega), Or.inl (sp_worn_off _ _ _ _ _ _ _ _ (by omega)), Or.inl (sp_worn_off _ _ _ _ _ _ _ _ (by omega))⟩)
  unfold sp_wear
  split
  · refine hw.of ⟨by simp [sp_melt, hs_sg], by simp [sp_melt, hs_sg], by simp [sp_melt, hs_sg]⟩ (fun i hi => ⟨by simp [sp_melt, hs_sg], by simp [sp_melt, hs_sg], Or.inl (by simp [sp_melt, hs_sg]), ?_⟩)
    by_cases e : i = f
    · refine Or.inr ?_
      subst e
      simp only [sp_melt, hs_sg]
      rw [if_neg (by omega), if_pos ⟨trivial, trivial, trivial⟩]
      decide +kernel
    · exact Or.inl (by simp [sp_melt, hs_sg, e])
  · exact hw
theorem sp_tour_ok {P F R : Nat} {σ : hs_St} (f : Nat) (x : Int32) (h : hs_ok P F R σ) : hs_ok P F R (hs_sg (sp_tour σ f) 0 0 7 x) := by
  refine h.of ⟨?_, ?_, ?_⟩ (fun i hi => ⟨?_, ?_, Or.inl ?_, ?_⟩)
  · simp only [sp_tour]; split <;> simp [hs_sg]
  · simp only [sp_tour]; split <;> simp [hs_sg]
  · simp only [sp_tour]; split <;> simp [hs_sg]
  · simp only [sp_tour]; split <;> simp [hs_sg]
  · simp only [sp_tour]; split <;> simp [hs_sg]
  · simp only [sp_tour]; split <;> simp [hs_sg]
  · simp only [sp_tour]
    split
    · exact Or.inl (by simp [hs_sg])
    · by_cases e : i = f
      · refine Or.inr ?_
        subst e
        simp only [hs_sg]
        rw [if_neg (by omega), if_pos ⟨trivial, trivial, trivial⟩]
        decide +kernel
      · exact Or.inl (by simp [hs_sg, e])
def sp_monAll (σ : hs_St) : Nat → hs_St
  | 0 => σ
  | n + 1 => sp_mon (sp_monAll σ n) n 3
theorem sp_monAll_off (σ : hs_St) (k i j : Nat) (h : k ≠ 5 ∧ k ≠ 6) : ∀ n, sp_monAll σ n k i j = σ k i j
  | 0 => rfl
  | n + 1 => by
    show sp_mon (sp_monAll σ n) n 3 k i j = _
    rw [sp_mon_off _ _ _ _ _ h, sp_monAll_off σ k i j h n]
theorem sp_monAll_ok {P F R : Nat} {σ : hs_St} (h : hs_ok P F R σ) (n : Nat) : hs_ok P F R (sp_monAll σ n) := h.of ⟨sp_monAll_off _ _ _ _ (by omega) n, sp_monAll_off _ _ _ _ (by omega) n, sp_monAll_off _ _ _ _ (by omega) n⟩ (fun i hi => ⟨sp_monAll_off _ _ _ _ (by omega) n, sp_monAll_off _ _ _ _ (by omega) n, Or.inl (sp_monAll_off _ _ _ _ (by omega) n), Or.inl (sp_monAll_off _ _ _ _ (by omega) n)⟩)
def sp_workAll (σ : hs_St) : Nat → Int32 × hs_St
  | 0 => (0, σ)
  | n + 1 => (if (sp_wd (sp_workAll σ n).2 n).1 = 0 then (sp_workAll σ n).1 else (sp_workAll σ n).1 + 1, (sp_wd (sp_workAll σ n).2 n).2)
theorem sp_workAll_ok {P F R : Nat} {σ : hs_St} (h : hs_ok P F R σ) : ∀ n, n ≤ 8 → hs_ok P F R (sp_workAll σ n).2
  | 0, _ => h
  | n + 1, hn => sp_wd_ok n (sp_workAll_ok h n (by omega)) (by omega)
def sp_touch (σ : hs_St) (x y : Int32) (f : Nat) : Int32 := if y ≤ 0 then 0 else x * sp_draw σ f / y
def sp_wearAll (σ : hs_St) (x y z : Int32) : Nat → Int32 × hs_St
  | 0 => (0, σ)
  | n + 1 => if sp_isShown (sp_wearAll σ x y z n).2 n = 0 then sp_wearAll σ x y z n else
    (if (sp_wear (sp_wearAll σ x y z n).2 n (sp_touch (sp_wearAll σ x y z n).2 x y n) ((sp_wearAll σ x y z n).2 10 ((sp_wearAll σ x y z n).2 9 n 7).toNatClampNeg 0) z).1 = 0 then (sp_wearAll σ x y z n).1 else (sp_wearAll σ x y z n).1 + 1,
     (sp_wear (sp_wearAll σ x y z n).2 n (sp_touch (sp_wearAll σ x y z n).2 x y n) ((sp_wearAll σ x y z n).2 10 ((sp_wearAll σ x y z n).2 9 n 7).toNatClampNeg 0) z).2)
theorem sp_wearAll_ok {P F R : Nat} {σ : hs_St} {x y z : Int32} (h : hs_ok P F R σ) : ∀ n, hs_ok P F R (sp_wearAll σ x y z n).2
  | 0 => h
  | n + 1 => by
    simp only [sp_wearAll]
    split
    · exact sp_wearAll_ok h n
    · exact sp_wear_ok _ _ _ _ (sp_wearAll_ok h n)
def sp_tourAll (σ : hs_St) : Nat → hs_St
  | 0 => σ
  | n + 1 => if sp_tourAll σ n 9 n 7 = 6 then hs_sg (sp_tour (sp_tourAll σ n) n) 0 0 7 (sp_tourAll σ n 0 0 7 + sp_earn (sp_tourAll σ n) n) else sp_tourAll σ n
theorem sp_tourAll_ok {P F R : Nat} {σ : hs_St} (h : hs_ok P F R σ) : ∀ n, hs_ok P F R (sp_tourAll σ n)
  | 0 => h
  | n + 1 => by
    simp only [sp_tourAll]
    split
    · exact sp_tour_ok _ _ (sp_tourAll_ok h n)
    · exact sp_tourAll_ok h n
def sp_dawn (σ : hs_St) (P : Nat) : hs_St := if σ 0 0 6 + 1 - (σ 0 0 6 + 1) / 30 * 30 = 0 then sp_monAll (hs_sg σ 0 0 6 (σ 0 0 6 + 1)) P else hs_sg σ 0 0 6 (σ 0 0 6 + 1)
def sp_come (σ : hs_St) (x : Int32) : Int32 := x * (100 - 5 * σ 0 0 9) / 100
def sp_paid (σ : hs_St) (x : Int32) : hs_St := hs_sg (hs_sg σ 0 0 10 (σ 0 0 10 + sp_come σ x)) 0 0 7 (σ 0 0 7 + σ 0 0 9 * sp_come σ x)
def sp_eve (σ : hs_St) (F : Nat) (x z : Int32) : Int32 × hs_St := sp_wearAll (sp_paid σ x) (sp_come σ x) (sp_draws σ 0 4 F) z F
def sp_day (σ : hs_St) (P F : Nat) (x z : Int32) : Int32 × hs_St := ((sp_workAll (sp_dawn σ P) F).1 + (sp_eve (sp_workAll (sp_dawn σ P) F).2 F x z).1, sp_tourAll (sp_eve (sp_workAll (sp_dawn σ P) F).2 F x z).2 F)
theorem hs_ok.sg0 {P F R : Nat} {σ : hs_St} (h : hs_ok P F R σ) (j : Nat) (v : Int32) (hj : 6 ≤ j) : hs_ok P F R (hs_sg σ 0 0 j v) := h.of ⟨by simp only [hs_sg]; rw [if_neg (by omega)], by simp only [hs_sg]; rw [if_neg (by omega)], by simp only [hs_sg]; rw [if_neg (by omega)]⟩ (fun i hi => ⟨by simp [hs_sg], by simp [hs_sg], Or.inl (by simp [hs_sg]), Or.inl (by simp [hs_sg])⟩)
theorem sp_dawn_ok {P F R : Nat} {σ : hs_St} (Q : Nat) (h : hs_ok P F R σ) : hs_ok P F R (sp_dawn σ Q) := by
  unfold sp_dawn
  split
  · exact sp_monAll_ok (h.sg0 6 _ (by omega)) Q
  · exact h.sg0 6 _ (by omega)
theorem sp_paid_ok {P F R : Nat} {σ : hs_St} (x : Int32) (h : hs_ok P F R σ) : hs_ok P F R (sp_paid σ x) := (h.sg0 10 _ (by omega)).sg0 7 _ (by omega)
theorem sp_day_ok {P F R : Nat} {σ : hs_St} (x z : Int32) (h : hs_ok P F R σ) : hs_ok P F R (sp_day σ P F x z).2 := sp_tourAll_ok (sp_wearAll_ok (sp_paid_ok x (sp_workAll_ok (sp_dawn_ok P h) F h.2.1)) F) F
set_option maxHeartbeats 4000000 in
set_option maxRecDepth 100000 in
/-- beginMonthOfAll: the loop at 2 -/
theorem lkX1_beginMonthOfAll (l : Launch) (D : va_G) (d : hs_Dm) (L : hs_Lo) (σ : hs_St) (A : Nat → Prop) {p : Program} {e : Env} {s : State} {m : MethodId} {args : Array Value} {below : List Frame} {meth : Method} {c : Code} (P F R : Nat) (hok : hs_ok P F R σ)  (hx : p.tables.exec = Jvm.exec) (hb : c.code = cX1_beginMonthOfAll) (hr : meth.sig.returnType = none) (hts : ∀ w ∈ wsX1_beginMonthOfAll, w.before args s = true) (hown : s.vm.findClass RX1 = some m.cls) (hlocks : meth.locks = false) (hml : c.maxLocals = 2) (hK : va_K D vwCl (hs_ty d) s) (hE : hs_E d.2.2.2.2 A s)  : ∀ (k n : Nat), n + k = P → ∀ (H : Heap) (locs : List Loc), hs_W D d L (sp_monAll σ n) A H → va_S A s.heap H locs → ∀ ls : Array Slot, lv_has ls 2 [(0, .ref (L 0 0)), (1, .int (nI n))] → W p l e ({ frames := 2, cells := 0, slots := 0, locals := 43 } : Room) s m args below meth c H locs 0 0 (MQ below (va_Qv (fun τ => sp_monAll σ P = τ) (fun τ t => hs_B D d L τ A t) A) args s 0 0 A) (F0 m 2 ls []) := by
  intro k
  induction k with
  | zero =>
    intro n hn H locs hW hS ls hl
    have hko := sp_monAll_ok hok n
    have h8 := hok.2.1
    have h10 := hok.1
    have h5 := hok.2.2.1
    have hnN : n = P := by omega
    refine lv_iload_n hx hb dX1_beginMonthOfAll_2 rfl (lv_at hl 1 rfl) ?_
    refine lv_aload_n hx hb dX1_beginMonthOfAll_3 rfl (lv_at hl 0 rfl) ?_
    refine va_get (D := D) (ci := cHo) (C := RX1) (T := TX1) (N := 11) (ws := [(L 0 0, hs_ct d L (sp_monAll σ n) 0 0)]) (v := .int ((sp_monAll σ n) 0 0 3)) hx hb hts (by decide +kernel) hown hK (hW.one hs_ix0) 0 rfl rfl 3 (by decide) (hts (.fieldLink RX1 46 "Waxrow$House" "personCount" "I") (by decide +kernel)) (fun _ h9 => h9) rfl dX1_beginMonthOfAll_4 ?_
    refine lv_icmp_ge (tgt := 25) hx hb dX1_beginMonthOfAll_7 (by decide) (fun c_7 => ?_) (fun c_7 => ?_)
    · exact W.vret hx hb hr (fun t ht hW9 => ⟨⟨(sp_monAll σ n), rfl, (by rw [hnN]), ⟨by rw [ht]; exact hW, va_K.moved hW9.alike hK⟩⟩, hS.F ht⟩) hS.2.2 dX1_beginMonthOfAll_25
    · exact absurd (by rw [hko.hP, hnN]; exact nI_le (Nat.le_refl _) (by omega)) c_7
  | succ k ih =>
    intro n hn H locs hW hS ls hl
    have hko := sp_monAll_ok hok n
    have h8 := hok.2.1
    have h10 := hok.1
    have h5 := hok.2.2.1
    have hnN : n < P := by omega
    refine lv_iload_n hx hb dX1_beginMonthOfAll_2 rfl (lv_at hl 1 rfl) ?_
    refine lv_aload_n hx hb dX1_beginMonthOfAll_3 rfl (lv_at hl 0 rfl) ?_
    refine va_get (D := D) (ci := cHo) (C := RX1) (T := TX1) (N := 11) (ws := [(L 0 0, hs_ct d L (sp_monAll σ n) 0 0)]) (v := .int ((sp_monAll σ n) 0 0 3)) hx hb hts (by decide +kernel) hown hK (hW.one hs_ix0) 0 rfl rfl 3 (by decide) (hts (.fieldLink RX1 46 "Waxrow$House" "personCount" "I") (by decide +kernel)) (fun _ h9 => h9) rfl dX1_beginMonthOfAll_4 ?_
    refine lv_icmp_ge (tgt := 25) hx hb dX1_beginMonthOfAll_7 (by decide) (fun c_7 => ?_) (fun c_7 => ?_)
    · exact absurd (by rw [hko.hP] at c_7; exact c_7) (nI_ge hnN (by omega))
    · refine lv_aload_n hx hb dX1_beginMonthOfAll_10 rfl (lv_at hl 0 rfl) ?_
      refine va_get (D := D) (ci := cHo) (C := RX1) (T := TX1) (N := 11) (ws := [(L 0 0, hs_ct d L (sp_monAll σ n) 0 0)]) (v := .ref (L 1 0)) hx hb hts (by decide +kernel) hown hK (hW.one hs_ix0) 0 rfl rfl 0 (by decide) (hts (.fieldLink RX1 11 "Waxrow$House" "persons" "[LWaxrow$Person;") (by decide +kernel)) (fun _ h9 => h9) rfl dX1_beginMonthOfAll_11 ?_
      refine lv_iload_n hx hb dX1_beginMonthOfAll_14 rfl (lv_at hl 1 rfl) ?_
      refine hs_aald (n := 10) (g := fun j => L 4 j) hx hb hK hW 1 1 hs_ix1 rfl rfl (vp_in_nI (show n < 10 by omega) (by decide)) dX1_beginMonthOfAll_15 ?_
      rw [nI_clamp (show n < 2 ^ 31 by omega)]
      refine hs_callv (As := []) ⟨hx, hb, hml, hown, hts⟩ (kX2_beginMonth l D d L (sp_monAll σ n) A n (show n < 10 by omega)) (cwV 0 hts gX1_beginMonthOfAll_X2_beginMonth rfl rfl rfl (by decide +kernel) ⟨Nat.le_of_ble_eq_true rfl, Nat.le_of_ble_eq_true rfl⟩) hK hE hW hS (hs_ix4 (show n < 10 by omega)) (ci := cPe) (r := (RX2, TX2, 8)) rfl rfl rfl rfl hl.1 (Nat.le_of_ble_eq_true rfl) dX1_beginMonthOfAll_16 ⟨Nat.zero_le _, Nat.zero_le _⟩ rfl (fun τ_ H locs hp hW hS => ?_)
      obtain rfl := hp
      refine lv_iinc (v := nI (n + 1)) (lv' := [(1, .int (nI (n + 1))), (0, .ref (L 0 0))]) hx hb dX1_beginMonthOfAll_19 hl (k := 1) rfl (nI_succ _).symm (by decide) rfl (fun ls hl => ?_)
      refine lv_goto (tgt := 2) hx hb dX1_beginMonthOfAll_22 (by decide) ?_
      have e_s : (sp_mon (sp_monAll σ n) n 3) = (sp_monAll σ (n + 1)) := rfl
      rw [e_s] at hW
      exact ih (n + 1) (by omega) _ _ hW hS ls (lv_sub hl [1, 0] rfl)
set_option maxHeartbeats 4000000 in
set_option maxRecDepth 100000 in
/-- beginMonthOfAll -/
theorem kX1_beginMonthOfAll (l : Launch) (D : va_G) (d : hs_Dm) (L : hs_Lo) (σ : hs_St) (A : Nat → Prop) (P F R : Nat) (hok : hs_ok P F R σ) : hs_Mv l yX1_beginMonthOfAll wsX1_beginMonthOfAll ({ frames := 2, cells := 0, slots := 0, locals := 43 }) D d L σ A [.ref (L 0 0)] (fun τ => sp_monAll σ P = τ) := by
  refine Met.ofW (cc := cX1_beginMonthOfAll) (maxL := 2) (ret := none) (by decide) rfl ?_
  intro p e s m args below meth c s₁ B hml hv
  obtain ⟨rfl, ⟨hW, hK⟩, hE⟩ := hv
  have hx := B.exec
  have hb := B.bytes
  have hr := B.returns
  have hts := atoms_spec (ws := wsX1_beginMonthOfAll) B.pre
  have hown : s.vm.findClass RX1 = some m.cls := findClass_of_methodNamed B.named
  have hlocks := B.notSynchronized
  have hS : va_S A s.heap s.heap [] := va_S.rf
  have hW : hs_W D d L σ A s.heap := hW
  have hl := lv_entry ([.ref (L 0 0)]) (n := 2) (Nat.le_of_ble_eq_true rfl)
  rw [lg_entry_eq]
  generalize (lg_sl ([.ref (L 0 0)]) ++ List.replicate (2 - (lg_sl ([.ref (L 0 0)])).length) Slot.unset).toArray = ls at hl ⊢
  have hl : lv_has ls 2 [(0, .ref (L 0 0))] := hl
  have h8 := hok.2.1
  have h10 := hok.1
  refine lv_iconst (v := 0) hx hb dX1_beginMonthOfAll_0 (by decide) ?_
  refine lv_istore_n (lv' := [(1, .int 0), (0, .ref (L 0 0))]) hx hb dX1_beginMonthOfAll_1 rfl hl (by decide) rfl (fun ls hl => ?_)
  exact lkX1_beginMonthOfAll l D d L σ A P F R hok hx hb hr hts hown hlocks hml hK hE  P 0 (by omega) _ _ hW hS ls (lv_sub hl [1, 0] rfl)
set_option maxHeartbeats 4000000 in
set_option maxRecDepth 100000 in
/-- workOnAll: the loop at 4 -/
theorem lkX1_workOnAll (l : Launch) (D : va_G) (d : hs_Dm) (L : hs_Lo) (σ : hs_St) (A : Nat → Prop) {p : Program} {e : Env} {s : State} {m : MethodId} {args : Array Value} {below : List Frame} {meth : Method} {c : Code} (P F R : Nat) (hok : hs_ok P F R σ)  (hx : p.tables.exec = Jvm.exec) (hb : c.code = cX1_workOnAll) (hr : meth.sig.returnType = (some .int)) (hts : ∀ w ∈ wsX1_workOnAll, w.before args s = true) (hown : s.vm.findClass RX1 = some m.cls) (hlocks : meth.locks = false) (hml : c.maxLocals = 3) (hK : va_K D vwCl (hs_ty d) s) (hE : hs_E d.2.2.2.2 A s)  : ∀ (k n : Nat), n + k = F → ∀ (H : Heap) (locs : List Loc), hs_W D d L ((sp_workAll σ n).2) A H → va_S A s.heap H locs → ∀ ls : Array Slot, lv_has ls 3 [(0, .ref (L 0 0)), (1, .int ((sp_workAll σ n).1)), (2, .int (nI n))] → W p l e ({ frames := 2, cells := 0, slots := 0, locals := 42 } : Room) s m args below meth c H locs 0 0 (MQ below (va_Qi (fun r τ => (sp_workAll σ F).1 = r ∧ (sp_workAll σ F).2 = τ) (fun τ t => hs_B D d L τ A t) A) args s 0 0 A) (F0 m 4 ls []) := by
  intro k
  induction k with
  | zero =>
    intro n hn H locs hW hS ls hl
    have hko := sp_workAll_ok hok n (by have := hok.2.1; omega)
    have h8 := hok.2.1
    have h10 := hok.1
    have h5 := hok.2.2.1
    have hnN : n = F := by omega
    refine lv_iload_n hx hb dX1_workOnAll_4 rfl (lv_at hl 2 rfl) ?_
    refine lv_aload_n hx hb dX1_workOnAll_5 rfl (lv_at hl 0 rfl) ?_
    refine va_get (D := D) (ci := cHo) (C := RX1) (T := TX1) (N := 11) (ws := [(L 0 0, hs_ct d L ((sp_workAll σ n).2) 0 0)]) (v := .int ((sp_workAll σ n).2 0 0 4)) hx hb hts (by decide +kernel) hown hK (hW.one hs_ix0) 0 rfl rfl 4 (by decide) (hts (.fieldLink RX1 49 "Waxrow$House" "figureCount" "I") (by decide +kernel)) (fun _ h9 => h9) rfl dX1_workOnAll_6 ?_
    refine lv_icmp_ge (tgt := 33) hx hb dX1_workOnAll_9 (by decide) (fun c_9 => ?_) (fun c_9 => ?_)
    · refine lv_iload_n hx hb dX1_workOnAll_33 rfl (lv_at hl 1 rfl) ?_
      exact W.iret (v := (sp_workAll σ n).1) hx hb hr (fun t ht hW9 => ⟨⟨((sp_workAll σ n).1), ((sp_workAll σ n).2), rfl, ⟨by rw [hnN], by rw [hnN]⟩, ⟨by rw [ht]; exact hW, va_K.moved hW9.alike hK⟩⟩, hS.F ht⟩) hS.2.2 dX1_workOnAll_34
    · exact absurd (by rw [hko.hF, hnN]; exact nI_le (Nat.le_refl _) (by omega)) c_9
  | succ k ih =>
    intro n hn H locs hW hS ls hl
    have hko := sp_workAll_ok hok n (by have := hok.2.1; omega)
    have h8 := hok.2.1
    have h10 := hok.1
    have h5 := hok.2.2.1
    have hnN : n < F := by omega
    refine lv_iload_n hx hb dX1_workOnAll_4 rfl (lv_at hl 2 rfl) ?_
    refine lv_aload_n hx hb dX1_workOnAll_5 rfl (lv_at hl 0 rfl) ?_
    refine va_get (D := D) (ci := cHo) (C := RX1) (T := TX1) (N := 11) (ws := [(L 0 0, hs_ct d L ((sp_workAll σ n).2) 0 0)]) (v := .int ((sp_workAll σ n).2 0 0 4)) hx hb hts (by decide +kernel) hown hK (hW.one hs_ix0) 0 rfl rfl 4 (by decide) (hts (.fieldLink RX1 49 "Waxrow$House" "figureCount" "I") (by decide +kernel)) (fun _ h9 => h9) rfl dX1_workOnAll_6 ?_
    refine lv_icmp_ge (tgt := 33) hx hb dX1_workOnAll_9 (by decide) (fun c_9 => ?_) (fun c_9 => ?_)
    · exact absurd (by rw [hko.hF] at c_9; exact c_9) (nI_ge hnN (by omega))
    · refine lv_aload_n hx hb dX1_workOnAll_12 rfl (lv_at hl 0 rfl) ?_
      refine va_get (D := D) (ci := cHo) (C := RX1) (T := TX1) (N := 11) (ws := [(L 0 0, hs_ct d L ((sp_workAll σ n).2) 0 0)]) (v := .ref (L 2 0)) hx hb hts (by decide +kernel) hown hK (hW.one hs_ix0) 0 rfl rfl 1 (by decide) (hts (.fieldLink RX1 22 "Waxrow$House" "figures" "[LWaxrow$Figure;") (by decide +kernel)) (fun _ h9 => h9) rfl dX1_workOnAll_13 ?_
      refine lv_iload_n hx hb dX1_workOnAll_16 rfl (lv_at hl 2 rfl) ?_
      refine hs_aald (n := 8) (g := fun j => L 9 j) hx hb hK hW 2 2 hs_ix2 rfl rfl (vp_in_nI (show n < 8 by omega) (by decide)) dX1_workOnAll_17 ?_
      rw [nI_clamp (show n < 2 ^ 31 by omega)]
      refine hs_calli (As := []) ⟨hx, hb, hml, hown, hts⟩ (kX0_workDay l D d L ((sp_workAll σ n).2) A n (show n < 8 by omega) hko.hd (hko.st (show n < 8 by omega))) (cwV 0 hts gX1_workOnAll_X0_workDay rfl rfl rfl (by decide +kernel) ⟨Nat.le_of_ble_eq_true rfl, Nat.le_of_ble_eq_true rfl⟩) hK hE hW hS (hs_ix9 (show n < 8 by omega)) (ci := cFi) (r := (RX0, TX0, 11)) rfl rfl rfl rfl hl.1 (Nat.le_of_ble_eq_true rfl) dX1_workOnAll_18 ⟨Nat.zero_le _, Nat.zero_le _⟩ rfl (fun r_ τ_ H locs hp hW hS => ?_)
      obtain ⟨rfl, rfl⟩ := hp
      refine lv_if_eq (tgt := 27) hx hb dX1_workOnAll_21 (by decide) (fun c_21 => ?_) (fun c_21 => ?_)
      · refine lv_iinc (v := nI (n + 1)) (lv' := [(2, .int (nI (n + 1))), (0, .ref (L 0 0)), (1, .int ((sp_workAll σ n).1))]) hx hb dX1_workOnAll_27 hl (k := 2) rfl (nI_succ _).symm (by decide) rfl (fun ls hl => ?_)
        refine lv_goto (tgt := 4) hx hb dX1_workOnAll_30 (by decide) ?_
        have e_1 : (sp_workAll σ n).1 = (sp_workAll σ (n + 1)).1 := by first | (simp only [sp_workAll, c_21, eq_self, ↓reduceIte]; done) | (simp [sp_workAll, c_21]; done)
        rw [e_1] at hl
        have e_s : (sp_wd ((sp_workAll σ n).2) n).2 = (sp_workAll σ (n + 1)).2 := rfl
        rw [e_s] at hW
        exact ih (n + 1) (by omega) _ _ hW hS ls (lv_sub hl [1, 2, 0] rfl)
      · refine lv_iinc (v := ((sp_workAll σ n).1) + 1) (lv' := [(1, .int (((sp_workAll σ n).1) + 1)), (0, .ref (L 0 0)), (2, .int (nI n))]) hx hb dX1_workOnAll_24 hl (k := 1) rfl rfl (by decide) rfl (fun ls hl => ?_)
        refine lv_iinc (v := nI (n + 1)) (lv' := [(2, .int (nI (n + 1))), (1, .int (((sp_workAll σ n).1) + 1)), (0, .ref (L 0 0))]) hx hb dX1_workOnAll_27 hl (k := 2) rfl (nI_succ _).symm (by decide) rfl (fun ls hl => ?_)
        refine lv_goto (tgt := 4) hx hb dX1_workOnAll_30 (by decide) ?_
        have e_1 : ((sp_workAll σ n).1) + 1 = (sp_workAll σ (n + 1)).1 := by first | (simp only [sp_workAll, c_21, eq_self, ↓reduceIte]; done) | (simp [sp_workAll, c_21]; done)
        rw [e_1] at hl
        have e_s : (sp_wd ((sp_workAll σ n).2) n).2 = (sp_workAll σ (n + 1)).2 := rfl
        rw [e_s] at hW
        exact ih (n + 1) (by omega) _ _ hW hS ls (lv_sub hl [2, 1, 0] rfl)
set_option maxHeartbeats 4000000 in
set_option maxRecDepth 100000 in
/-- workOnAll -/
theorem kX1_workOnAll (l : Launch) (D : va_G) (d : hs_Dm) (L : hs_Lo) (σ : hs_St) (A : Nat → Prop) (P F R : Nat) (hok : hs_ok P F R σ) : hs_Mi l yX1_workOnAll wsX1_workOnAll ({ frames := 2, cells := 0, slots := 0, locals := 42 }) D d L σ A [.ref (L 0 0)] (fun r τ => (sp_workAll σ F).1 = r ∧ (sp_workAll σ F).2 = τ) := by
  refine Met.ofW (cc := cX1_workOnAll) (maxL := 3) (ret := (some .int)) (by decide) rfl ?_
  intro p e s m args below meth c s₁ B hml hv
  obtain ⟨rfl, ⟨hW, hK⟩, hE⟩ := hv
  have hx := B.exec
  have hb := B.bytes
  have hr := B.returns
  have hts := atoms_spec (ws := wsX1_workOnAll) B.pre
  have hown : s.vm.findClass RX1 = some m.cls := findClass_of_methodNamed B.named
  have hlocks := B.notSynchronized
  have hS : va_S A s.heap s.heap [] := va_S.rf
  have hW : hs_W D d L σ A s.heap := hW
  have hl := lv_entry ([.ref (L 0 0)]) (n := 3) (Nat.le_of_ble_eq_true rfl)
  rw [lg_entry_eq]
  generalize (lg_sl ([.ref (L 0 0)]) ++ List.replicate (3 - (lg_sl ([.ref (L 0 0)])).length) Slot.unset).toArray = ls at hl ⊢
  have hl : lv_has ls 3 [(0, .ref (L 0 0))] := hl
  have h8 := hok.2.1
  have h10 := hok.1
  refine lv_iconst (v := 0) hx hb dX1_workOnAll_0 (by decide) ?_
  refine lv_istore_n (lv' := [(1, .int 0), (0, .ref (L 0 0))]) hx hb dX1_workOnAll_1 rfl hl (by decide) rfl (fun ls hl => ?_)
  refine lv_iconst (v := 0) hx hb dX1_workOnAll_2 (by decide) ?_
  refine lv_istore_n (lv' := [(2, .int 0), (1, .int 0), (0, .ref (L 0 0))]) hx hb dX1_workOnAll_3 rfl hl (by decide) rfl (fun ls hl => ?_)
  exact lkX1_workOnAll l D d L σ A P F R hok hx hb hr hts hown hlocks hml hK hE  F 0 (by omega) _ _ hW hS ls (lv_sub hl [2, 1, 0] rfl)
set_option maxHeartbeats 4000000 in
set_option maxRecDepth 100000 in
/-- wearAllShown: the loop at 6 -/
theorem lkX1_wearAllShown (l : Launch) (D : va_G) (d : hs_Dm) (L : hs_Lo) (σ : hs_St) (A : Nat → Prop) {p : Program} {e : Env} {s : State} {m : MethodId} {args : Array Value} {below : List Frame} {meth : Method} {c : Code} (P F R : Nat) (hok : hs_ok P F R σ) (x y z : Int32)  (hx : p.tables.exec = Jvm.exec) (hb : c.code = cX1_wearAllShown) (hr : meth.sig.returnType = (some .int)) (hts : ∀ w ∈ wsX1_wearAllShown, w.before args s = true) (hown : s.vm.findClass RX1 = some m.cls) (hlocks : meth.locks = false) (hml : c.maxLocals = 8) (hK : va_K D vwCl (hs_ty d) s) (hE : hs_E d.2.2.2.2 A s)  : ∀ (k n : Nat), n + k = F → ∀ (H : Heap) (locs : List Loc), hs_W D d L ((sp_wearAll σ x y z n).2) A H → va_S A s.heap H locs → ∀ ls : Array Slot, lv_has ls 8 [(0, .ref (L 0 0)), (1, .int x), (2, .int y), (3, .int z), (4, .int ((sp_wearAll σ x y z n).1)), (5, .int (nI n))] → W p l e ({ frames := 3, cells := 0, slots := 0, locals := 63 } : Room) s m args below meth c H locs 0 0 (MQ below (va_Qi (fun r τ => (sp_wearAll σ x y z F).1 = r ∧ (sp_wearAll σ x y z F).2 = τ) (fun τ t => hs_B D d L τ A t) A) args s 0 0 A) (F0 m 6 ls []) := by
  intro k
  induction k with
  | zero =>
    intro n hn H locs hW hS ls hl
    have hko := sp_wearAll_ok (x := x) (y := y) (z := z) hok n
    have h8 := hok.2.1
    have h10 := hok.1
    have h5 := hok.2.2.1
    have hnN : n = F := by omega
    refine lv_iload hx hb dX1_wearAllShown_6 (lv_at hl 5 rfl) ?_
    refine lv_aload_n hx hb dX1_wearAllShown_8 rfl (lv_at hl 0 rfl) ?_
    refine va_get (D := D) (ci := cHo) (C := RX1) (T := TX1) (N := 11) (ws := [(L 0 0, hs_ct d L ((sp_wearAll σ x y z n).2) 0 0)]) (v := .int ((sp_wearAll σ x y z n).2 0 0 4)) hx hb hts (by decide +kernel) hown hK (hW.one hs_ix0) 0 rfl rfl 4 (by decide) (hts (.fieldLink RX1 49 "Waxrow$House" "figureCount" "I") (by decide +kernel)) (fun _ h9 => h9) rfl dX1_wearAllShown_9 ?_
    refine lv_icmp_ge (tgt := 86) hx hb dX1_wearAllShown_12 (by decide) (fun c_12 => ?_) (fun c_12 => ?_)
    · refine lv_iload hx hb dX1_wearAllShown_86 (lv_at hl 4 rfl) ?_
      exact W.iret (v := (sp_wearAll σ x y z n).1) hx hb hr (fun t ht hW9 => ⟨⟨((sp_wearAll σ x y z n).1), ((sp_wearAll σ x y z n).2), rfl, ⟨by rw [hnN], by rw [hnN]⟩, ⟨by rw [ht]; exact hW, va_K.moved hW9.alike hK⟩⟩, hS.F ht⟩) hS.2.2 dX1_wearAllShown_88
    · exact absurd (by rw [hko.hF, hnN]; exact nI_le (Nat.le_refl _) (by omega)) c_12
  | succ k ih =>
    intro n hn H locs hW hS ls hl
    have hko := sp_wearAll_ok (x := x) (y := y) (z := z) hok n
    have h8 := hok.2.1
    have h10 := hok.1
    have h5 := hok.2.2.1
    have hnN : n < F := by omega
    refine lv_iload hx hb dX1_wearAllShown_6 (lv_at hl 5 rfl) ?_
    refine lv_aload_n hx hb dX1_wearAllShown_8 rfl (lv_at hl 0 rfl) ?_
    refine va_get (D := D) (ci := cHo) (C := RX1) (T := TX1) (N := 11) (ws := [(L 0 0, hs_ct d L ((sp_wearAll σ x y z n).2) 0 0)]) (v := .int ((sp_wearAll σ x y z n).2 0 0 4)) hx hb hts (by decide +kernel) hown hK (hW.one hs_ix0) 0 rfl rfl 4 (by decide) (hts (.fieldLink RX1 49 "Waxrow$House" "figureCount" "I") (by decide +kernel)) (fun _ h9 => h9) rfl dX1_wearAllShown_9 ?_
    refine lv_icmp_ge (tgt := 86) hx hb dX1_wearAllShown_12 (by decide) (fun c_12 => ?_) (fun c_12 => ?_)
    · exact absurd (by rw [hko.hF] at c_12; exact c_12) (nI_ge hnN (by omega))
    · refine lv_aload_n hx hb dX1_wearAllShown_15 rfl (lv_at hl 0 rfl) ?_
      refine va_get (D := D) (ci := cHo) (C := RX1) (T := TX1) (N := 11) (ws := [(L 0 0, hs_ct d L ((sp_wearAll σ x y z n).2) 0 0)]) (v := .ref (L 2 0)) hx hb hts (by decide +kernel) hown hK (hW.one hs_ix0) 0 rfl rfl 1 (by decide) (hts (.fieldLink RX1 22 "Waxrow$House" "figures" "[LWaxrow$Figure;") (by decide +kernel)) (fun _ h9 => h9) rfl dX1_wearAllShown_16 ?_
      refine lv_iload hx hb dX1_wearAllShown_19 (lv_at hl 5 rfl) ?_
      refine hs_aald (n := 8) (g := fun j => L 9 j) hx hb hK hW 2 2 hs_ix2 rfl rfl (vp_in_nI (show n < 8 by omega) (by decide)) dX1_wearAllShown_21 ?_
      rw [nI_clamp (show n < 2 ^ 31 by omega)]
      refine lv_astore (lv' := [(6, .ref (L 9 n)), (0, .ref (L 0 0)), (1, .int x), (2, .int y), (3, .int z), (4, .int ((sp_wearAll σ x y z n).1)), (5, .int (nI n))]) hx hb dX1_wearAllShown_22 hl (by decide) rfl (fun ls hl => ?_)
      refine lv_aload hx hb dX1_wearAllShown_24 (lv_at hl 0 rfl) ?_
      refine hs_calli (As := []) ⟨hx, hb, hml, hown, hts⟩ (kX0_isShown l D d L ((sp_wearAll σ x y z n).2) A n (show n < 8 by omega)) (cwV 0 hts gX1_wearAllShown_X0_isShown rfl rfl rfl (by decide +kernel) ⟨Nat.le_of_ble_eq_true rfl, Nat.le_of_ble_eq_true rfl⟩) hK hE hW hS (hs_ix9 (show n < 8 by omega)) (ci := cFi) (r := (RX0, TX0, 11)) rfl rfl rfl rfl hl.1 (Nat.le_of_ble_eq_true rfl) dX1_wearAllShown_26 ⟨Nat.zero_le _, Nat.zero_le _⟩ rfl (fun r_ τ_ H locs hp hW hS => ?_)
      obtain ⟨rfl, rfl⟩ := hp
      refine lv_if_ne (tgt := 35) hx hb dX1_wearAllShown_29 (by decide) (fun c_29 => ?_) (fun c_29 => ?_)
      · obtain ⟨r_, hr_, er_⟩ := hko.at (show n < 8 by omega) c_29
        refine lv_iload_n hx hb dX1_wearAllShown_35 rfl (lv_at hl 3 rfl) ?_
        refine lv_if_le (tgt := 51) hx hb dX1_wearAllShown_36 (by decide) (fun c_36 => ?_) (fun c_36 => ?_)
        · refine lv_iconst (v := 0) hx hb dX1_wearAllShown_51 (by decide) ?_
          refine lv_istore (lv' := [(7, .int 0), (6, .ref (L 9 n)), (0, .ref (L 0 0)), (1, .int x), (2, .int y), (3, .int z), (4, .int ((sp_wearAll σ x y z n).1)), (5, .int (nI n))]) hx hb dX1_wearAllShown_52 hl (by decide) rfl (fun ls hl => ?_)
          refine lv_aload hx hb dX1_wearAllShown_54 (lv_at hl 1 rfl) ?_
          refine lv_iload hx hb dX1_wearAllShown_56 (lv_at hl 0 rfl) ?_
          refine lv_aload_n hx hb dX1_wearAllShown_58 rfl (lv_at hl 2 rfl) ?_
          refine lv_aload hx hb dX1_wearAllShown_59 (lv_at hl 1 rfl) ?_
          refine va_get (D := D) (ci := cFi) (C := RX0) (T := TX0) (N := 11) (ws := [(L 9 n, hs_ct d L ((sp_wearAll σ x y z n).2) 9 n)]) (v := .int (nI r_)) hx hb hts (by decide +kernel) hown hK (hW.one (hs_ix9 (show n < 8 by omega))) 0 rfl rfl 7 (by decide) (hts (.fieldLink RX1 107 "Waxrow$Figure" "place" "I") (by decide +kernel)) (fun _ h9 => h9) (congrArg (fun q => some (Value.int q)) er_) dX1_wearAllShown_61 ?_
          refine hs_callr (As := [.int (nI r_)]) ⟨hx, hb, hml, hown, hts⟩ (kX1_roomAt l D d L ((sp_wearAll σ x y z n).2) A r_ R hko.hR hr_ hko.2.2.1) (cwV 1 hts gX1_wearAllShown_X1_roomAt rfl rfl rfl (by decide +kernel) ⟨Nat.le_of_ble_eq_true rfl, Nat.le_of_ble_eq_true rfl⟩) hK hE hW hS hs_ix0 (ci := cHo) (r := (RX1, TX1, 11)) rfl rfl rfl rfl hl.1 (Nat.le_of_ble_eq_true rfl) dX1_wearAllShown_64 ⟨Nat.zero_le _, Nat.zero_le _⟩ rfl (fun H locs hW hS => ?_)
          refine va_get (D := D) (ci := cRo) (C := RX3) (T := TX3) (N := 2) (ws := [(L 10 r_, hs_ct d L ((sp_wearAll σ x y z n).2) 10 r_)]) (v := .int ((sp_wearAll σ x y z n).2 10 r_ 0)) hx hb hts (by decide +kernel) hown hK (hW.one (hs_ix10 (show r_ < 5 by omega))) 0 rfl rfl 0 (by decide) (hts (.fieldLink RX1 81 "Waxrow$Room" "lamps" "I") (by decide +kernel)) (fun _ h9 => h9) rfl dX1_wearAllShown_67 ?_
          refine lv_iload_n hx hb dX1_wearAllShown_70 rfl (lv_at hl 5 rfl) ?_
          refine hs_calli (As := [.int 0, .int ((sp_wearAll σ x y z n).2 10 r_ 0), .int z]) ⟨hx, hb, hml, hown, hts⟩ (kX0_wearDay l D d L ((sp_wearAll σ x y z n).2) A n (show n < 8 by omega) hko.hd 0 ((sp_wearAll σ x y z n).2 10 r_ 0) z) (cwV 3 hts gX1_wearAllShown_X0_wearDay rfl rfl rfl (by decide +kernel) ⟨Nat.le_of_ble_eq_true rfl, Nat.le_of_ble_eq_true rfl⟩) hK hE hW hS (hs_ix9 (show n < 8 by omega)) (ci := cFi) (r := (RX0, TX0, 11)) rfl rfl rfl rfl hl.1 (Nat.le_of_ble_eq_true rfl) dX1_wearAllShown_71 ⟨Nat.zero_le _, Nat.zero_le _⟩ rfl (fun r_ τ_ H locs hp hW hS => ?_)
          obtain ⟨rfl, rfl⟩ := hp
          refine lv_if_eq (tgt := 80) hx hb dX1_wearAllShown_74 (by decide) (fun c_74 => ?_) (fun c_74 => ?_)
          · refine lv_iinc (v := nI (n + 1)) (lv' := [(5, .int (nI (n + 1))), (7, .int 0), (6, .ref (L 9 n)), (0, .ref (L 0 0)), (1, .int x), (2, .int y), (3, .int z), (4, .int ((sp_wearAll σ x y z n).1))]) hx hb dX1_wearAllShown_80 hl (k := 7) rfl (nI_succ _).symm (by decide) rfl (fun ls hl => ?_)
            refine lv_goto (tgt := 6) hx hb dX1_wearAllShown_83 (by decide) ?_
            have e_q : sp_wearAll σ x y z (n + 1) = ((sp_wearAll σ x y z n).1, (sp_wear ((sp_wearAll σ x y z n).2) n 0 ((sp_wearAll σ x y z n).2 10 r_ 0) z).2) := by first | (simp only [sp_wearAll, sp_touch, c_29, c_36, c_74, er_, nI_clamp (show r_ < 2 ^ 31 by omega), eq_self, ↓reduceIte]; done) | (simp [sp_wearAll, sp_touch, c_29, c_36, c_74, er_, nI_clamp (show r_ < 2 ^ 31 by omega)]; done)
            have e_4 : (sp_wearAll σ x y z n).1 = (sp_wearAll σ x y z (n + 1)).1 := by rw [e_q]
            have e_s : (sp_wear ((sp_wearAll σ x y z n).2) n 0 ((sp_wearAll σ x y z n).2 10 r_ 0) z).2 = (sp_wearAll σ x y z (n + 1)).2 := by rw [e_q]
            rw [e_4] at hl
            rw [e_s] at hW
            exact ih (n + 1) (by omega) _ _ hW hS ls (lv_sub hl [3, 4, 5, 6, 7, 0] rfl)
          · refine lv_iinc (v := ((sp_wearAll σ x y z n).1) + 1) (lv' := [(4, .int (((sp_wearAll σ x y z n).1) + 1)), (7, .int 0), (6, .ref (L 9 n)), (0, .ref (L 0 0)), (1, .int x), (2, .int y), (3, .int z), (5, .int (nI n))]) hx hb dX1_wearAllShown_77 hl (k := 6) rfl rfl (by decide) rfl (fun ls hl => ?_)
            refine lv_iinc (v := nI (n + 1)) (lv' := [(5, .int (nI (n + 1))), (4, .int (((sp_wearAll σ x y z n).1) + 1)), (7, .int 0), (6, .ref (L 9 n)), (0, .ref (L 0 0)), (1, .int x), (2, .int y), (3, .int z)]) hx hb dX1_wearAllShown_80 hl (k := 7) rfl (nI_succ _).symm (by decide) rfl (fun ls hl => ?_)
            refine lv_goto (tgt := 6) hx hb dX1_wearAllShown_83 (by decide) ?_
            have e_q : sp_wearAll σ x y z (n + 1) = (((sp_wearAll σ x y z n).1) + 1, (sp_wear ((sp_wearAll σ x y z n).2) n 0 ((sp_wearAll σ x y z n).2 10 r_ 0) z).2) := by first | (simp only [sp_wearAll, sp_touch, c_29, c_36, c_74, er_, nI_clamp (show r_ < 2 ^ 31 by omega), eq_self, ↓reduceIte]; done) | (simp [sp_wearAll, sp_touch, c_29, c_36, c_74, er_, nI_clamp (show r_ < 2 ^ 31 by omega)]; done)
            have e_4 : ((sp_wearAll σ x y z n).1) + 1 = (sp_wearAll σ x y z (n + 1)).1 := by rw [e_q]
            have e_s : (sp_wear ((sp_wearAll σ x y z n).2) n 0 ((sp_wearAll σ x y z n).2 10 r_ 0) z).2 = (sp_wearAll σ x y z (n + 1)).2 := by rw [e_q]
            rw [e_4] at hl
            rw [e_s] at hW
            exact ih (n + 1) (by omega) _ _ hW hS ls (lv_sub hl [4, 5, 6, 7, 1, 0] rfl)
        · refine lv_iload_n hx hb dX1_wearAllShown_39 rfl (lv_at hl 2 rfl) ?_
          refine lv_aload hx hb dX1_wearAllShown_40 (lv_at hl 0 rfl) ?_
          refine hs_calli (As := []) ⟨hx, hb, hml, hown, hts⟩ (kX0_draw l D d L ((sp_wearAll σ x y z n).2) A n (show n < 8 by omega) hko.hd) (cwV 0 hts gX1_wearAllShown_X0_draw rfl rfl rfl (by decide +kernel) ⟨Nat.le_of_ble_eq_true rfl, Nat.le_of_ble_eq_true rfl⟩) hK hE hW hS (hs_ix9 (show n < 8 by omega)) (ci := cFi) (r := (RX0, TX0, 11)) rfl rfl rfl rfl hl.1 (Nat.le_of_ble_eq_true rfl) dX1_wearAllShown_42 ⟨Nat.zero_le _, Nat.zero_le _⟩ rfl (fun r_ τ_ H locs hp hW hS => ?_)
          obtain ⟨rfl, rfl⟩ := hp
          refine lv_imul hx hb dX1_wearAllShown_45 ?_
          refine lv_iload_n hx hb dX1_wearAllShown_46 rfl (lv_at hl 3 rfl) ?_
          refine lv_idiv hx hb dX1_wearAllShown_47 (fun q => c_36 (by rw [q]; decide +kernel)) ?_
          refine lv_goto (tgt := 52) hx hb dX1_wearAllShown_48 (by decide) ?_
          refine lv_istore (lv' := [(7, .int ((x * (sp_draw ((sp_wearAll σ x y z n).2) n)) / y)), (6, .ref (L 9 n)), (0, .ref (L 0 0)), (1, .int x), (2, .int y), (3, .int z), (4, .int ((sp_wearAll σ x y z n).1)), (5, .int (nI n))]) hx hb dX1_wearAllShown_52 hl (by decide) rfl (fun ls hl => ?_)
          refine lv_aload hx hb dX1_wearAllShown_54 (lv_at hl 1 rfl) ?_
          refine lv_iload hx hb dX1_wearAllShown_56 (lv_at hl 0 rfl) ?_
          refine lv_aload_n hx hb dX1_wearAllShown_58 rfl (lv_at hl 2 rfl) ?_
          refine lv_aload hx hb dX1_wearAllShown_59 (lv_at hl 1 rfl) ?_
          refine va_get (D := D) (ci := cFi) (C := RX0) (T := TX0) (N := 11) (ws := [(L 9 n, hs_ct d L ((sp_wearAll σ x y z n).2) 9 n)]) (v := .int (nI r_)) hx hb hts (by decide +kernel) hown hK (hW.one (hs_ix9 (show n < 8 by omega))) 0 rfl rfl 7 (by decide) (hts (.fieldLink RX1 107 "Waxrow$Figure" "place" "I") (by decide +kernel)) (fun _ h9 => h9) (congrArg (fun q => some (Value.int q)) er_) dX1_wearAllShown_61 ?_
          refine hs_callr (As := [.int (nI r_)]) ⟨hx, hb, hml, hown, hts⟩ (kX1_roomAt l D d L ((sp_wearAll σ x y z n).2) A r_ R hko.hR hr_ hko.2.2.1) (cwV 1 hts gX1_wearAllShown_X1_roomAt rfl rfl rfl (by decide +kernel) ⟨Nat.le_of_ble_eq_true rfl, Nat.le_of_ble_eq_true rfl⟩) hK hE hW hS hs_ix0 (ci := cHo) (r := (RX1, TX1, 11)) rfl rfl rfl rfl hl.1 (Nat.le_of_ble_eq_true rfl) dX1_wearAllShown_64 ⟨Nat.zero_le _, Nat.zero_le _⟩ rfl (fun H locs hW hS => ?_)
          refine va_get (D := D) (ci := cRo) (C := RX3) (T := TX3) (N := 2) (ws := [(L 10 r_, hs_ct d L ((sp_wearAll σ x y z n).2) 10 r_)]) (v := .int ((sp_wearAll σ x y z n).2 10 r_ 0)) hx hb hts (by decide +kernel) hown hK (hW.one (hs_ix10 (show r_ < 5 by omega))) 0 rfl rfl 0 (by decide) (hts (.fieldLink RX1 81 "Waxrow$Room" "lamps" "I") (by decide +kernel)) (fun _ h9 => h9) rfl dX1_wearAllShown_67 ?_
          refine lv_iload_n hx hb dX1_wearAllShown_70 rfl (lv_at hl 5 rfl) ?_
          refine hs_calli (As := [.int ((x * (sp_draw ((sp_wearAll σ x y z n).2) n)) / y), .int ((sp_wearAll σ x y z n).2 10 r_ 0), .int z]) ⟨hx, hb, hml, hown, hts⟩ (kX0_wearDay l D d L ((sp_wearAll σ x y z n).2) A n (show n < 8 by omega) hko.hd ((x * (sp_draw ((sp_wearAll σ x y z n).2) n)) / y) ((sp_wearAll σ x y z n).2 10 r_ 0) z) (cwV 3 hts gX1_wearAllShown_X0_wearDay rfl rfl rfl (by decide +kernel) ⟨Nat.le_of_ble_eq_true rfl, Nat.le_of_ble_eq_true rfl⟩) hK hE hW hS (hs_ix9 (show n < 8 by omega)) (ci := cFi) (r := (RX0, TX0, 11)) rfl rfl rfl rfl hl.1 (Nat.le_of_ble_eq_true rfl) dX1_wearAllShown_71 ⟨Nat.zero_le _, Nat.zero_le _⟩ rfl (fun r_ τ_ H locs hp hW hS => ?_)
          obtain ⟨rfl, rfl⟩ := hp
          refine lv_if_eq (tgt := 80) hx hb dX1_wearAllShown_74 (by decide) (fun c_74 => ?_) (fun c_74 => ?_)
          · refine lv_iinc (v := nI (n + 1)) (lv' := [(5, .int (nI (n + 1))), (7, .int ((x * (sp_draw ((sp_wearAll σ x y z n).2) n)) / y)), (6, .ref (L 9 n)), (0, .ref (L 0 0)), (1, .int x), (2, .int y), (3, .int z), (4, .int ((sp_wearAll σ x y z n).1))]) hx hb dX1_wearAllShown_80 hl (k := 7) rfl (nI_succ _).symm (by decide) rfl (fun ls hl => ?_)
            refine lv_goto (tgt := 6) hx hb dX1_wearAllShown_83 (by decide) ?_
            have e_q : sp_wearAll σ x y z (n + 1) = ((sp_wearAll σ x y z n).1, (sp_wear ((sp_wearAll σ x y z n).2) n ((x * (sp_draw ((sp_wearAll σ x y z n).2) n)) / y) ((sp_wearAll σ x y z n).2 10 r_ 0) z).2) := by first | (simp only [sp_wearAll, sp_touch, c_29, c_36, c_74, er_, nI_clamp (show r_ < 2 ^ 31 by omega), eq_self, ↓reduceIte]; done) | (simp [sp_wearAll, sp_touch, c_29, c_36, c_74, er_, nI_clamp (show r_ < 2 ^ 31 by omega)]; done)
            have e_4 : (sp_wearAll σ x y z n).1 = (sp_wearAll σ x y z (n + 1)).1 := by rw [e_q]
            have e_s : (sp_wear ((sp_wearAll σ x y z n).2) n ((x * (sp_draw ((sp_wearAll σ x y z n).2) n)) / y) ((sp_wearAll σ x y z n).2 10 r_ 0) z).2 = (sp_wearAll σ x y z (n + 1)).2 := by rw [e_q]
            rw [e_4] at hl
            rw [e_s] at hW
            exact ih (n + 1) (by omega) _ _ hW hS ls (lv_sub hl [3, 4, 5, 6, 7, 0] rfl)
          · refine lv_iinc (v := ((sp_wearAll σ x y z n).1) + 1) (lv' := [(4, .int (((sp_wearAll σ x y z n).1) + 1)), (7, .int ((x * (sp_draw ((sp_wearAll σ x y z n).2) n)) / y)), (6, .ref (L 9 n)), (0, .ref (L 0 0)), (1, .int x), (2, .int y), (3, .int z), (5, .int (nI n))]) hx hb dX1_wearAllShown_77 hl (k := 6) rfl rfl (by decide) rfl (fun ls hl => ?_)
            refine lv_iinc (v := nI (n + 1)) (lv' := [(5, .int (nI (n + 1))), (4, .int (((sp_wearAll σ x y z n).1) + 1)), (7, .int ((x * (sp_draw ((sp_wearAll σ x y z n).2) n)) / y)), (6, .ref (L 9 n)), (0, .ref (L 0 0)), (1, .int x), (2, .int y), (3, .int z)]) hx hb dX1_wearAllShown_80 hl (k := 7) rfl (nI_succ _).symm (by decide) rfl (fun ls hl => ?_)
            refine lv_goto (tgt := 6) hx hb dX1_wearAllShown_83 (by decide) ?_
            have e_q : sp_wearAll σ x y z (n + 1) = (((sp_wearAll σ x y z n).1) + 1, (sp_wear ((sp_wearAll σ x y z n).2) n ((x * (sp_draw ((sp_wearAll σ x y z n).2) n)) / y) ((sp_wearAll σ x y z n).2 10 r_ 0) z).2) := by first | (simp only [sp_wearAll, sp_touch, c_29, c_36, c_74, er_, nI_clamp (show r_ < 2 ^ 31 by omega), eq_self, ↓reduceIte]; done) | (simp [sp_wearAll, sp_touch, c_29, c_36, c_74, er_, nI_clamp (show r_ < 2 ^ 31 by omega)]; done)
            have e_4 : ((sp_wearAll σ x y z n).1) + 1 = (sp_wearAll σ x y z (n + 1)).1 := by rw [e_q]
            have e_s : (sp_wear ((sp_wearAll σ x y z n).2) n ((x * (sp_draw ((sp_wearAll σ x y z n).2) n)) / y) ((sp_wearAll σ x y z n).2 10 r_ 0) z).2 = (sp_wearAll σ x y z (n + 1)).2 := by rw [e_q]
            rw [e_4] at hl
            rw [e_s] at hW
            exact ih (n + 1) (by omega) _ _ hW hS ls (lv_sub hl [4, 5, 6, 7, 1, 0] rfl)
      · refine lv_goto (tgt := 80) hx hb dX1_wearAllShown_32 (by decide) ?_
        refine lv_iinc (v := nI (n + 1)) (lv' := [(5, .int (nI (n + 1))), (6, .ref (L 9 n)), (0, .ref (L 0 0)), (1, .int x), (2, .int y), (3, .int z), (4, .int ((sp_wearAll σ x y z n).1))]) hx hb dX1_wearAllShown_80 hl (k := 6) rfl (nI_succ _).symm (by decide) rfl (fun ls hl => ?_)
        refine lv_goto (tgt := 6) hx hb dX1_wearAllShown_83 (by decide) ?_
        have e_q : sp_wearAll σ x y z (n + 1) = ((sp_wearAll σ x y z n).1, (sp_wearAll σ x y z n).2) := by first | (simp only [sp_wearAll, sp_touch, c_29, eq_self, ↓reduceIte]; done) | (simp [sp_wearAll, sp_touch, c_29]; done)
        have e_4 : (sp_wearAll σ x y z n).1 = (sp_wearAll σ x y z (n + 1)).1 := by rw [e_q]
        have e_s : (sp_wearAll σ x y z n).2 = (sp_wearAll σ x y z (n + 1)).2 := by rw [e_q]
        rw [e_4] at hl
        rw [e_s] at hW
        exact ih (n + 1) (by omega) _ _ hW hS ls (lv_sub hl [2, 3, 4, 5, 6, 0] rfl)
set_option maxHeartbeats 4000000 in
set_option maxRecDepth 100000 in
/-- wearAllShown -/
theorem kX1_wearAllShown (l : Launch) (D : va_G) (d : hs_Dm) (L : hs_Lo) (σ : hs_St) (A : Nat → Prop) (P F R : Nat) (hok : hs_ok P F R σ) (x y z : Int32) : hs_Mi l yX1_wearAllShown wsX1_wearAllShown ({ frames := 3, cells := 0, slots := 0, locals := 63 }) D d L σ A [.ref (L 0 0), .int x, .int y, .int z] (fun r τ => (sp_wearAll σ x y z F).1 = r ∧ (sp_wearAll σ x y z F).2 = τ) := by
  refine Met.ofW (cc := cX1_wearAllShown) (maxL := 8) (ret := (some .int)) (by decide) rfl ?_
  intro p e s m args below meth c s₁ B hml hv
  obtain ⟨rfl, ⟨hW, hK⟩, hE⟩ := hv
  have hx := B.exec
  have hb := B.bytes
  have hr := B.returns
  have hts := atoms_spec (ws := wsX1_wearAllShown) B.pre
  have hown : s.vm.findClass RX1 = some m.cls := findClass_of_methodNamed B.named
  have hlocks := B.notSynchronized
  have hS : va_S A s.heap s.heap [] := va_S.rf
  have hW : hs_W D d L σ A s.heap := hW
  have hl := lv_entry ([.ref (L 0 0), .int x, .int y, .int z]) (n := 8) (Nat.le_of_ble_eq_true rfl)
  rw [lg_entry_eq]
  generalize (lg_sl ([.ref (L 0 0), .int x, .int y, .int z]) ++ List.replicate (8 - (lg_sl ([.ref (L 0 0), .int x, .int y, .int z])).length) Slot.unset).toArray = ls at hl ⊢
  have hl : lv_has ls 8 [(0, .ref (L 0 0)), (1, .int x), (2, .int y), (3, .int z)] := hl
  have h8 := hok.2.1
  have h10 := hok.1
  refine lv_iconst (v := 0) hx hb dX1_wearAllShown_0 (by decide) ?_
  refine lv_istore (lv' := [(4, .int 0), (0, .ref (L 0 0)), (1, .int x), (2, .int y), (3, .int z)]) hx hb dX1_wearAllShown_1 hl (by decide) rfl (fun ls hl => ?_)
  refine lv_iconst (v := 0) hx hb dX1_wearAllShown_3 (by decide) ?_
  refine lv_istore (lv' := [(5, .int 0), (4, .int 0), (0, .ref (L 0 0)), (1, .int x), (2, .int y), (3, .int z)]) hx hb dX1_wearAllShown_4 hl (by decide) rfl (fun ls hl => ?_)
  exact lkX1_wearAllShown l D d L σ A P F R hok x y z hx hb hr hts hown hlocks hml hK hE  F 0 (by omega) _ _ hW hS ls (lv_sub hl [2, 3, 4, 5, 1, 0] rfl)
set_option maxHeartbeats 4000000 in
set_option maxRecDepth 100000 in
/-- tourWithAll: the loop at 2 -/
theorem lkX1_tourWithAll (l : Launch) (D : va_G) (d : hs_Dm) (L : hs_Lo) (σ : hs_St) (A : Nat → Prop) {p : Program} {e : Env} {s : State} {m : MethodId} {args : Array Value} {below : List Frame} {meth : Method} {c : Code} (P F R : Nat) (hok : hs_ok P F R σ)  (hx : p.tables.exec = Jvm.exec) (hb : c.code = cX1_tourWithAll) (hr : meth.sig.returnType = none) (hts : ∀ w ∈ wsX1_tourWithAll, w.before args s = true) (hown : s.vm.findClass RX1 = some m.cls) (hlocks : meth.locks = false) (hml : c.maxLocals = 2) (hK : va_K D vwCl (hs_ty d) s) (hE : hs_E d.2.2.2.2 A s)  : ∀ (k n : Nat), n + k = F → ∀ (H : Heap) (locs : List Loc), hs_W D d L (sp_tourAll σ n) A H → va_S A s.heap H locs → ∀ ls : Array Slot, lv_has ls 2 [(0, .ref (L 0 0)), (1, .int (nI n))] → W p l e ({ frames := 3, cells := 0, slots := 0, locals := 64 } : Room) s m args below meth c H locs 0 0 (MQ below (va_Qv (fun τ => sp_tourAll σ F = τ) (fun τ t => hs_B D d L τ A t) A) args s 0 0 A) (F0 m 2 ls []) := by
  intro k
  induction k with
  | zero =>
    intro n hn H locs hW hS ls hl
    have hko := sp_tourAll_ok hok n
    have h8 := hok.2.1
    have h10 := hok.1
    have h5 := hok.2.2.1
    have hnN : n = F := by omega
    refine lv_iload_n hx hb dX1_tourWithAll_2 rfl (lv_at hl 1 rfl) ?_
    refine lv_aload_n hx hb dX1_tourWithAll_3 rfl (lv_at hl 0 rfl) ?_
    refine va_get (D := D) (ci := cHo) (C := RX1) (T := TX1) (N := 11) (ws := [(L 0 0, hs_ct d L (sp_tourAll σ n) 0 0)]) (v := .int ((sp_tourAll σ n) 0 0 4)) hx hb hts (by decide +kernel) hown hK (hW.one hs_ix0) 0 rfl rfl 4 (by decide) (hts (.fieldLink RX1 49 "Waxrow$House" "figureCount" "I") (by decide +kernel)) (fun _ h9 => h9) rfl dX1_tourWithAll_4 ?_
    refine lv_icmp_ge (tgt := 48) hx hb dX1_tourWithAll_7 (by decide) (fun c_7 => ?_) (fun c_7 => ?_)
    · exact W.vret hx hb hr (fun t ht hW9 => ⟨⟨(sp_tourAll σ n), rfl, (by rw [hnN]), ⟨by rw [ht]; exact hW, va_K.moved hW9.alike hK⟩⟩, hS.F ht⟩) hS.2.2 dX1_tourWithAll_48
    · exact absurd (by rw [hko.hF, hnN]; exact nI_le (Nat.le_refl _) (by omega)) c_7
  | succ k ih =>
    intro n hn H locs hW hS ls hl
    have hko := sp_tourAll_ok hok n
    have h8 := hok.2.1
    have h10 := hok.1
    have h5 := hok.2.2.1
    have hnN : n < F := by omega
    refine lv_iload_n hx hb dX1_tourWithAll_2 rfl (lv_at hl 1 rfl) ?_
    refine lv_aload_n hx hb dX1_tourWithAll_3 rfl (lv_at hl 0 rfl) ?_
    refine va_get (D := D) (ci := cHo) (C := RX1) (T := TX1) (N := 11) (ws := [(L 0 0, hs_ct d L (sp_tourAll σ n) 0 0)]) (v := .int ((sp_tourAll σ n) 0 0 4)) hx hb hts (by decide +kernel) hown hK (hW.one hs_ix0) 0 rfl rfl 4 (by decide) (hts (.fieldLink RX1 49 "Waxrow$House" "figureCount" "I") (by decide +kernel)) (fun _ h9 => h9) rfl dX1_tourWithAll_4 ?_
    refine lv_icmp_ge (tgt := 48) hx hb dX1_tourWithAll_7 (by decide) (fun c_7 => ?_) (fun c_7 => ?_)
    · exact absurd (by rw [hko.hF] at c_7; exact c_7) (nI_ge hnN (by omega))
    · refine lv_aload_n hx hb dX1_tourWithAll_10 rfl (lv_at hl 0 rfl) ?_
      refine va_get (D := D) (ci := cHo) (C := RX1) (T := TX1) (N := 11) (ws := [(L 0 0, hs_ct d L (sp_tourAll σ n) 0 0)]) (v := .ref (L 2 0)) hx hb hts (by decide +kernel) hown hK (hW.one hs_ix0) 0 rfl rfl 1 (by decide) (hts (.fieldLink RX1 22 "Waxrow$House" "figures" "[LWaxrow$Figure;") (by decide +kernel)) (fun _ h9 => h9) rfl dX1_tourWithAll_11 ?_
      refine lv_iload_n hx hb dX1_tourWithAll_14 rfl (lv_at hl 1 rfl) ?_
      refine hs_aald (n := 8) (g := fun j => L 9 j) hx hb hK hW 2 2 hs_ix2 rfl rfl (vp_in_nI (show n < 8 by omega) (by decide)) dX1_tourWithAll_15 ?_
      rw [nI_clamp (show n < 2 ^ 31 by omega)]
      refine va_get (D := D) (ci := cFi) (C := RX0) (T := TX0) (N := 11) (ws := [(L 9 n, hs_ct d L (sp_tourAll σ n) 9 n)]) (v := .int ((sp_tourAll σ n) 9 n 7)) hx hb hts (by decide +kernel) hown hK (hW.one (hs_ix9 (show n < 8 by omega))) 0 rfl rfl 7 (by decide) (hts (.fieldLink RX1 107 "Waxrow$Figure" "place" "I") (by decide +kernel)) (fun _ h9 => h9) rfl dX1_tourWithAll_16 ?_
      refine lv_bipush (v := 6) hx hb dX1_tourWithAll_19 (by decide) ?_
      refine lv_icmp_ne (tgt := 42) hx hb dX1_tourWithAll_21 (by decide) (fun c_21 => ?_) (fun c_21 => ?_)
      · refine lv_iinc (v := nI (n + 1)) (lv' := [(1, .int (nI (n + 1))), (0, .ref (L 0 0))]) hx hb dX1_tourWithAll_42 hl (k := 1) rfl (nI_succ _).symm (by decide) rfl (fun ls hl => ?_)
        refine lv_goto (tgt := 2) hx hb dX1_tourWithAll_45 (by decide) ?_
        have e_s : (sp_tourAll σ n) = (sp_tourAll σ (n + 1)) := by first | (simp only [sp_tourAll, c_21, eq_self, ↓reduceIte]; done) | (simp [sp_tourAll, c_21]; done)
        rw [e_s] at hW
        exact ih (n + 1) (by omega) _ _ hW hS ls (lv_sub hl [1, 0] rfl)
      · refine lv_aload_n hx hb dX1_tourWithAll_24 rfl (lv_at hl 0 rfl) ?_
        refine lv_dup hx hb dX1_tourWithAll_25 rfl ?_
        refine va_get (D := D) (ci := cHo) (C := RX1) (T := TX1) (N := 11) (ws := [(L 0 0, hs_ct d L (sp_tourAll σ n) 0 0)]) (v := .int ((sp_tourAll σ n) 0 0 7)) hx hb hts (by decide +kernel) hown hK (hW.one hs_ix0) 0 rfl rfl 7 (by decide) (hts (.fieldLink RX1 36 "Waxrow$House" "money" "I") (by decide +kernel)) (fun _ h9 => h9) rfl dX1_tourWithAll_26 ?_
        refine lv_aload_n hx hb dX1_tourWithAll_29 rfl (lv_at hl 0 rfl) ?_
        refine va_get (D := D) (ci := cHo) (C := RX1) (T := TX1) (N := 11) (ws := [(L 0 0, hs_ct d L (sp_tourAll σ n) 0 0)]) (v := .ref (L 2 0)) hx hb hts (by decide +kernel) hown hK (hW.one hs_ix0) 0 rfl rfl 1 (by decide) (hts (.fieldLink RX1 22 "Waxrow$House" "figures" "[LWaxrow$Figure;") (by decide +kernel)) (fun _ h9 => h9) rfl dX1_tourWithAll_30 ?_
        refine lv_iload_n hx hb dX1_tourWithAll_33 rfl (lv_at hl 1 rfl) ?_
        refine hs_aald (n := 8) (g := fun j => L 9 j) hx hb hK hW 2 2 hs_ix2 rfl rfl (vp_in_nI (show n < 8 by omega) (by decide)) dX1_tourWithAll_34 ?_
        rw [nI_clamp (show n < 2 ^ 31 by omega)]
        refine hs_calli (As := []) ⟨hx, hb, hml, hown, hts⟩ (kX0_tourDay l D d L (sp_tourAll σ n) A n (show n < 8 by omega) hko.hd) (cwV 0 hts gX1_tourWithAll_X0_tourDay rfl rfl rfl (by decide +kernel) ⟨Nat.le_of_ble_eq_true rfl, Nat.le_of_ble_eq_true rfl⟩) hK hE hW hS (hs_ix9 (show n < 8 by omega)) (ci := cFi) (r := (RX0, TX0, 11)) rfl rfl rfl rfl hl.1 (Nat.le_of_ble_eq_true rfl) dX1_tourWithAll_35 ⟨Nat.zero_le _, Nat.zero_le _⟩ rfl (fun r_ τ_ H locs hp hW hS => ?_)
        obtain ⟨rfl, rfl⟩ := hp
        refine lv_iadd hx hb dX1_tourWithAll_38 ?_
        refine hs_put (ci := cHo) (C := RX1) (T := TX1) (N := 11) (ty := .int) hx hb hts (by decide +kernel) tyX1 tyX1_ok nmX1 hown hK hW hS 0 0 hs_ix0 rfl rfl 7 (by decide) (hts (.fieldLink RX1 36 "Waxrow$House" "money" "I") (by decide +kernel)) (fun _ h9 => h9) rfl (by decide +kernel) rfl rfl (Nat.le_of_ble_eq_true rfl) (hs_sg (sp_tour (sp_tourAll σ n) n) 0 0 7 (((sp_tourAll σ n) 0 0 7) + (sp_earn (sp_tourAll σ n) n))) (by simp [hs_ct, hs_sg]) (hs_off _ _ _ _ _) dX1_tourWithAll_39 (fun H locs hW hS => ?_)
        refine lv_iinc (v := nI (n + 1)) (lv' := [(1, .int (nI (n + 1))), (0, .ref (L 0 0))]) hx hb dX1_tourWithAll_42 hl (k := 1) rfl (nI_succ _).symm (by decide) rfl (fun ls hl => ?_)
        refine lv_goto (tgt := 2) hx hb dX1_tourWithAll_45 (by decide) ?_
        have e_s : (hs_sg (sp_tour (sp_tourAll σ n) n) 0 0 7 (((sp_tourAll σ n) 0 0 7) + (sp_earn (sp_tourAll σ n) n))) = (sp_tourAll σ (n + 1)) := by first | (simp only [sp_tourAll, c_21, eq_self, ↓reduceIte]; done) | (simp [sp_tourAll, c_21]; done)
        rw [e_s] at hW
        exact ih (n + 1) (by omega) _ _ hW hS ls (lv_sub hl [1, 0] rfl)
set_option maxHeartbeats 4000000 in
set_option maxRecDepth 100000 in
/-- tourWithAll -/
theorem kX1_tourWithAll (l : Launch) (D : va_G) (d : hs_Dm) (L : hs_Lo) (σ : hs_St) (A : Nat → Prop) (P F R : Nat) (hok : hs_ok P F R σ) : hs_Mv l yX1_tourWithAll wsX1_tourWithAll ({ frames := 3, cells := 0, slots := 0, locals := 64 }) D d L σ A [.ref (L 0 0)] (fun τ => sp_tourAll σ F = τ) := by
  refine Met.ofW (cc := cX1_tourWithAll) (maxL := 2) (ret := none) (by decide) rfl ?_
  intro p e s m args below meth c s₁ B hml hv
  obtain ⟨rfl, ⟨hW, hK⟩, hE⟩ := hv
  have hx := B.exec
  have hb := B.bytes
  have hr := B.returns
  have hts := atoms_spec (ws := wsX1_tourWithAll) B.pre
  have hown : s.vm.findClass RX1 = some m.cls := findClass_of_methodNamed B.named
  have hlocks := B.notSynchronized
  have hS : va_S A s.heap s.heap [] := va_S.rf
  have hW : hs_W D d L σ A s.heap := hW
  have hl := lv_entry ([.ref (L 0 0)]) (n := 2) (Nat.le_of_ble_eq_true rfl)
  rw [lg_entry_eq]
  generalize (lg_sl ([.ref (L 0 0)]) ++ List.replicate (2 - (lg_sl ([.ref (L 0 0)])).length) Slot.unset).toArray = ls at hl ⊢
  have hl : lv_has ls 2 [(0, .ref (L 0 0))] := hl
  have h8 := hok.2.1
  have h10 := hok.1
  refine lv_iconst (v := 0) hx hb dX1_tourWithAll_0 (by decide) ?_
  refine lv_istore_n (lv' := [(1, .int 0), (0, .ref (L 0 0))]) hx hb dX1_tourWithAll_1 rfl hl (by decide) rfl (fun ls hl => ?_)
  exact lkX1_tourWithAll l D d L σ A P F R hok hx hb hr hts hown hlocks hml hK hE  F 0 (by omega) _ _ hW hS ls (lv_sub hl [1, 0] rfl)
set_option maxHeartbeats 4000000 in
set_option maxRecDepth 100000 in
/-- passDay -/
theorem kX1_passDay (l : Launch) (D : va_G) (d : hs_Dm) (L : hs_Lo) (σ : hs_St) (A : Nat → Prop) (P F R : Nat) (hok : hs_ok P F R σ) (x z : Int32) : hs_Mi l yX1_passDay wsX1_passDay ({ frames := 4, cells := 0, slots := 0, locals := 90 }) D d L σ A [.ref (L 0 0), .int x, .int z] (fun r τ => (sp_day σ P F x z).1 = r ∧ (sp_day σ P F x z).2 = τ) := by
  refine Met.ofW (cc := cX1_passDay) (maxL := 7) (ret := (some .int)) (by decide) rfl ?_
  intro p e s m args below meth c s₁ B hml hv
  obtain ⟨rfl, ⟨hW, hK⟩, hE⟩ := hv
  have hx := B.exec
  have hb := B.bytes
  have hr := B.returns
  have hts := atoms_spec (ws := wsX1_passDay) B.pre
  have hown : s.vm.findClass RX1 = some m.cls := findClass_of_methodNamed B.named
  have hlocks := B.notSynchronized
  have hS : va_S A s.heap s.heap [] := va_S.rf
  have hW : hs_W D d L σ A s.heap := hW
  have hl := lv_entry ([.ref (L 0 0), .int x, .int z]) (n := 7) (Nat.le_of_ble_eq_true rfl)
  rw [lg_entry_eq]
  generalize (lg_sl ([.ref (L 0 0), .int x, .int z]) ++ List.replicate (7 - (lg_sl ([.ref (L 0 0), .int x, .int z])).length) Slot.unset).toArray = ls at hl ⊢
  have hl : lv_has ls 7 [(0, .ref (L 0 0)), (1, .int x), (2, .int z)] := hl
  have hk2 := sp_workAll_ok (sp_dawn_ok P hok) F hok.2.1
  refine lv_aload_n hx hb dX1_passDay_0 rfl (lv_at hl 0 rfl) ?_
  refine lv_dup hx hb dX1_passDay_1 rfl ?_
  refine va_get (D := D) (ci := cHo) (C := RX1) (T := TX1) (N := 11) (ws := [(L 0 0, hs_ct d L σ 0 0)]) (v := .int (σ 0 0 6)) hx hb hts (by decide +kernel) hown hK (hW.one hs_ix0) 0 rfl rfl 6 (by decide) (hts (.fieldLink RX1 55 "Waxrow$House" "day" "I") (by decide +kernel)) (fun _ h9 => h9) rfl dX1_passDay_2 ?_
  refine lv_iconst (v := 1) hx hb dX1_passDay_5 (by decide) ?_
  refine lv_iadd hx hb dX1_passDay_6 ?_
  refine hs_put (ci := cHo) (C := RX1) (T := TX1) (N := 11) (ty := .int) hx hb hts (by decide +kernel) tyX1 tyX1_ok nmX1 hown hK hW hS 0 0 hs_ix0 rfl rfl 6 (by decide) (hts (.fieldLink RX1 55 "Waxrow$House" "day" "I") (by decide +kernel)) (fun _ h9 => h9) rfl (by decide +kernel) rfl rfl (Nat.le_of_ble_eq_true rfl) (hs_sg σ 0 0 6 ((σ 0 0 6) + 1)) (by simp [hs_ct, hs_sg]) (hs_off _ _ _ _ _) dX1_passDay_7 (fun H locs hW hS => ?_)
  refine lv_aload_n hx hb dX1_passDay_10 rfl (lv_at hl 0 rfl) ?_
  refine va_get (D := D) (ci := cHo) (C := RX1) (T := TX1) (N := 11) (ws := [(L 0 0, hs_ct d L (hs_sg σ 0 0 6 ((σ 0 0 6) + 1)) 0 0)]) (v := .int ((σ 0 0 6) + 1)) hx hb hts (by decide +kernel) hown hK (hW.one hs_ix0) 0 rfl rfl 6 (by decide) (hts (.fieldLink RX1 55 "Waxrow$House" "day" "I") (by decide +kernel)) (fun _ h9 => h9) (by simp [hs_sg]) dX1_passDay_11 ?_
  refine lv_bipush (v := 30) hx hb dX1_passDay_14 (by decide) ?_
  refine lv_irem hx hb dX1_passDay_16 (by decide) ?_
  refine lv_if_ne (tgt := 24) hx hb dX1_passDay_17 (by decide) (fun c_17 => ?_) (fun c_17 => ?_)
  · refine lv_aload_n hx hb dX1_passDay_24 rfl (lv_at hl 0 rfl) ?_
    have e_d : (hs_sg σ 0 0 6 ((σ 0 0 6) + 1)) = sp_dawn σ P := by first | (simp only [sp_dawn, c_17, eq_self, ↓reduceIte]; done) | (simp [sp_dawn, c_17]; done)
    rw [e_d] at hW
    refine hs_calli (As := []) ⟨hx, hb, hml, hown, hts⟩ (kX1_workOnAll l D d L (sp_dawn σ P) A P F R (sp_dawn_ok P hok)) (cwV 0 hts gX1_passDay_X1_workOnAll rfl rfl rfl (by decide +kernel) ⟨Nat.le_of_ble_eq_true rfl, Nat.le_of_ble_eq_true rfl⟩) hK hE hW hS hs_ix0 (ci := cHo) (r := (RX1, TX1, 11)) rfl rfl rfl rfl hl.1 (Nat.le_of_ble_eq_true rfl) dX1_passDay_25 ⟨Nat.zero_le _, Nat.zero_le _⟩ rfl (fun r_ τ_ H locs hp hW hS => ?_)
    obtain ⟨rfl, rfl⟩ := hp
    refine lv_istore_n (lv' := [(3, .int ((sp_workAll (sp_dawn σ P) F).1)), (0, .ref (L 0 0)), (1, .int x), (2, .int z)]) hx hb dX1_passDay_28 rfl hl (by decide) rfl (fun ls hl => ?_)
    refine lv_aload_n hx hb dX1_passDay_29 rfl (lv_at hl 1 rfl) ?_
    refine lv_iconst (v := 0) hx hb dX1_passDay_30 (by decide) ?_
    refine lv_iconst (v := 4) hx hb dX1_passDay_31 (by decide) ?_
    refine hs_calli (As := [.int 0, .int 4]) ⟨hx, hb, hml, hown, hts⟩ (kX1_drawsIn l D d L ((sp_workAll (sp_dawn σ P) F).2) A 0 4 F hk2.hF hk2.2.1 hk2.hd) (cwV 2 hts gX1_passDay_X1_drawsIn rfl rfl rfl (by decide +kernel) ⟨Nat.le_of_ble_eq_true rfl, Nat.le_of_ble_eq_true rfl⟩) hK hE hW hS hs_ix0 (ci := cHo) (r := (RX1, TX1, 11)) rfl rfl rfl rfl hl.1 (Nat.le_of_ble_eq_true rfl) dX1_passDay_32 ⟨Nat.zero_le _, Nat.zero_le _⟩ rfl (fun r_ τ_ H locs hp hW hS => ?_)
    obtain ⟨rfl, rfl⟩ := hp
    refine lv_istore (lv' := [(4, .int (sp_draws ((sp_workAll (sp_dawn σ P) F).2) 0 4 F)), (3, .int ((sp_workAll (sp_dawn σ P) F).1)), (0, .ref (L 0 0)), (1, .int x), (2, .int z)]) hx hb dX1_passDay_35 hl (by decide) rfl (fun ls hl => ?_)
    refine lv_iload_n hx hb dX1_passDay_37 rfl (lv_at hl 3 rfl) ?_
    refine lv_bipush (v := 100) hx hb dX1_passDay_38 (by decide) ?_
    refine lv_iconst (v := 5) hx hb dX1_passDay_40 (by decide) ?_
    refine lv_aload_n hx hb dX1_passDay_41 rfl (lv_at hl 2 rfl) ?_
    refine va_get (D := D) (ci := cHo) (C := RX1) (T := TX1) (N := 11) (ws := [(L 0 0, hs_ct d L ((sp_workAll (sp_dawn σ P) F).2) 0 0)]) (v := .int ((sp_workAll (sp_dawn σ P) F).2 0 0 9)) hx hb hts (by decide +kernel) hown hK (hW.one hs_ix0) 0 rfl rfl 9 (by decide) (hts (.fieldLink RX1 43 "Waxrow$House" "price" "I") (by decide +kernel)) (fun _ h9 => h9) rfl dX1_passDay_42 ?_
    refine lv_imul hx hb dX1_passDay_45 ?_
    refine lv_isub hx hb dX1_passDay_46 ?_
    refine lv_imul hx hb dX1_passDay_47 ?_
    refine lv_bipush (v := 100) hx hb dX1_passDay_48 (by decide) ?_
    refine lv_idiv hx hb dX1_passDay_50 (by decide) ?_
    refine lv_istore (lv' := [(5, .int ((x * (100 - (5 * ((sp_workAll (sp_dawn σ P) F).2 0 0 9)))) / 100)), (4, .int (sp_draws ((sp_workAll (sp_dawn σ P) F).2) 0 4 F)), (3, .int ((sp_workAll (sp_dawn σ P) F).1)), (0, .ref (L 0 0)), (1, .int x), (2, .int z)]) hx hb dX1_passDay_51 hl (by decide) rfl (fun ls hl => ?_)
    refine lv_aload_n hx hb dX1_passDay_53 rfl (lv_at hl 3 rfl) ?_
    refine lv_dup hx hb dX1_passDay_54 rfl ?_
    refine va_get (D := D) (ci := cHo) (C := RX1) (T := TX1) (N := 11) (ws := [(L 0 0, hs_ct d L ((sp_workAll (sp_dawn σ P) F).2) 0 0)]) (v := .int ((sp_workAll (sp_dawn σ P) F).2 0 0 10)) hx hb hts (by decide +kernel) hown hK (hW.one hs_ix0) 0 rfl rfl 10 (by decide) (hts (.fieldLink RX1 58 "Waxrow$House" "came" "I") (by decide +kernel)) (fun _ h9 => h9) rfl dX1_passDay_55 ?_
    refine lv_iload hx hb dX1_passDay_58 (lv_at hl 0 rfl) ?_
    refine lv_iadd hx hb dX1_passDay_60 ?_
    refine hs_put (ci := cHo) (C := RX1) (T := TX1) (N := 11) (ty := .int) hx hb hts (by decide +kernel) tyX1 tyX1_ok nmX1 hown hK hW hS 0 0 hs_ix0 rfl rfl 10 (by decide) (hts (.fieldLink RX1 58 "Waxrow$House" "came" "I") (by decide +kernel)) (fun _ h9 => h9) rfl (by decide +kernel) rfl rfl (Nat.le_of_ble_eq_true rfl) (hs_sg ((sp_workAll (sp_dawn σ P) F).2) 0 0 10 (((sp_workAll (sp_dawn σ P) F).2 0 0 10) + ((x * (100 - (5 * ((sp_workAll (sp_dawn σ P) F).2 0 0 9)))) / 100))) (by simp [hs_ct, hs_sg]) (hs_off _ _ _ _ _) dX1_passDay_61 (fun H locs hW hS => ?_)
    refine lv_aload_n hx hb dX1_passDay_64 rfl (lv_at hl 3 rfl) ?_
    refine lv_dup hx hb dX1_passDay_65 rfl ?_
    refine va_get (D := D) (ci := cHo) (C := RX1) (T := TX1) (N := 11) (ws := [(L 0 0, hs_ct d L (hs_sg ((sp_workAll (sp_dawn σ P) F).2) 0 0 10 (((sp_workAll (sp_dawn σ P) F).2 0 0 10) + ((x * (100 - (5 * ((sp_workAll (sp_dawn σ P) F).2 0 0 9)))) / 100))) 0 0)]) (v := .int ((sp_workAll (sp_dawn σ P) F).2 0 0 7)) hx hb hts (by decide +kernel) hown hK (hW.one hs_ix0) 0 rfl rfl 7 (by decide) (hts (.fieldLink RX1 36 "Waxrow$House" "money" "I") (by decide +kernel)) (fun _ h9 => h9) (by simp [hs_sg]) dX1_passDay_66 ?_
    refine lv_aload_n hx hb dX1_passDay_69 rfl (lv_at hl 3 rfl) ?_
    refine va_get (D := D) (ci := cHo) (C := RX1) (T := TX1) (N := 11) (ws := [(L 0 0, hs_ct d L (hs_sg ((sp_workAll (sp_dawn σ P) F).2) 0 0 10 (((sp_workAll (sp_dawn σ P) F).2 0 0 10) + ((x * (100 - (5 * ((sp_workAll (sp_dawn σ P) F).2 0 0 9)))) / 100))) 0 0)]) (v := .int ((sp_workAll (sp_dawn σ P) F).2 0 0 9)) hx hb hts (by decide +kernel) hown hK (hW.one hs_ix0) 0 rfl rfl 9 (by decide) (hts (.fieldLink RX1 43 "Waxrow$House" "price" "I") (by decide +kernel)) (fun _ h9 => h9) (by simp [hs_sg]) dX1_passDay_70 ?_
    refine lv_iload hx hb dX1_passDay_73 (lv_at hl 0 rfl) ?_
    refine lv_imul hx hb dX1_passDay_75 ?_
    refine lv_iadd hx hb dX1_passDay_76 ?_
    refine hs_put (ci := cHo) (C := RX1) (T := TX1) (N := 11) (ty := .int) hx hb hts (by decide +kernel) tyX1 tyX1_ok nmX1 hown hK hW hS 0 0 hs_ix0 rfl rfl 7 (by decide) (hts (.fieldLink RX1 36 "Waxrow$House" "money" "I") (by decide +kernel)) (fun _ h9 => h9) rfl (by decide +kernel) rfl rfl (Nat.le_of_ble_eq_true rfl) (hs_sg (hs_sg ((sp_workAll (sp_dawn σ P) F).2) 0 0 10 (((sp_workAll (sp_dawn σ P) F).2 0 0 10) + ((x * (100 - (5 * ((sp_workAll (sp_dawn σ P) F).2 0 0 9)))) / 100))) 0 0 7 (((sp_workAll (sp_dawn σ P) F).2 0 0 7) + (((sp_workAll (sp_dawn σ P) F).2 0 0 9) * ((x * (100 - (5 * ((sp_workAll (sp_dawn σ P) F).2 0 0 9)))) / 100)))) (by simp [hs_ct, hs_sg]) (hs_off _ _ _ _ _) dX1_passDay_77 (fun H locs hW hS => ?_)
    refine lv_aload_n hx hb dX1_passDay_80 rfl (lv_at hl 3 rfl) ?_
    refine lv_iload hx hb dX1_passDay_81 (lv_at hl 0 rfl) ?_
    refine lv_iload hx hb dX1_passDay_83 (lv_at hl 1 rfl) ?_
    refine lv_iload_n hx hb dX1_passDay_85 rfl (lv_at hl 5 rfl) ?_
    refine hs_calli (As := [.int ((x * (100 - (5 * ((sp_workAll (sp_dawn σ P) F).2 0 0 9)))) / 100), .int (sp_draws ((sp_workAll (sp_dawn σ P) F).2) 0 4 F), .int z]) ⟨hx, hb, hml, hown, hts⟩ (kX1_wearAllShown l D d L (hs_sg (hs_sg ((sp_workAll (sp_dawn σ P) F).2) 0 0 10 (((sp_workAll (sp_dawn σ P) F).2 0 0 10) + ((x * (100 - (5 * ((sp_workAll (sp_dawn σ P) F).2 0 0 9)))) / 100))) 0 0 7 (((sp_workAll (sp_dawn σ P) F).2 0 0 7) + (((sp_workAll (sp_dawn σ P) F).2 0 0 9) * ((x * (100 - (5 * ((sp_workAll (sp_dawn σ P) F).2 0 0 9)))) / 100)))) A P F R (sp_paid_ok x hk2) ((x * (100 - (5 * ((sp_workAll (sp_dawn σ P) F).2 0 0 9)))) / 100) (sp_draws ((sp_workAll (sp_dawn σ P) F).2) 0 4 F) z) (cwV 3 hts gX1_passDay_X1_wearAllShown rfl rfl rfl (by decide +kernel) ⟨Nat.le_of_ble_eq_true rfl, Nat.le_of_ble_eq_true rfl⟩) hK hE hW hS hs_ix0 (ci := cHo) (r := (RX1, TX1, 11)) rfl rfl rfl rfl hl.1 (Nat.le_of_ble_eq_true rfl) dX1_passDay_86 ⟨Nat.zero_le _, Nat.zero_le _⟩ rfl (fun r_ τ_ H locs hp hW hS => ?_)
    obtain ⟨rfl, rfl⟩ := hp
    refine lv_istore (lv' := [(6, .int ((sp_eve (sp_workAll (sp_dawn σ P) F).2 F x z).1)), (5, .int ((x * (100 - (5 * ((sp_workAll (sp_dawn σ P) F).2 0 0 9)))) / 100)), (4, .int (sp_draws ((sp_workAll (sp_dawn σ P) F).2) 0 4 F)), (3, .int ((sp_workAll (sp_dawn σ P) F).1)), (0, .ref (L 0 0)), (1, .int x), (2, .int z)]) hx hb dX1_passDay_89 hl (by decide) rfl (fun ls hl => ?_)
    refine lv_aload_n hx hb dX1_passDay_91 rfl (lv_at hl 4 rfl) ?_
    refine hs_callv (As := []) ⟨hx, hb, hml, hown, hts⟩ (kX1_tourWithAll l D d L ((sp_eve (sp_workAll (sp_dawn σ P) F).2 F x z).2) A P F R (sp_wearAll_ok (sp_paid_ok x hk2) F)) (cwV 0 hts gX1_passDay_X1_tourWithAll rfl rfl rfl (by decide +kernel) ⟨Nat.le_of_ble_eq_true rfl, Nat.le_of_ble_eq_true rfl⟩) hK hE hW hS hs_ix0 (ci := cHo) (r := (RX1, TX1, 11)) rfl rfl rfl rfl hl.1 (Nat.le_of_ble_eq_true rfl) dX1_passDay_92 ⟨Nat.zero_le _, Nat.zero_le _⟩ rfl (fun τ_ H locs hp hW hS => ?_)
    obtain rfl := hp
    refine lv_iload_n hx hb dX1_passDay_95 rfl (lv_at hl 3 rfl) ?_
    refine lv_iload hx hb dX1_passDay_96 (lv_at hl 0 rfl) ?_
    refine lv_iadd hx hb dX1_passDay_98 ?_
    exact W.iret (v := ((sp_workAll (sp_dawn σ P) F).1) + ((sp_eve (sp_workAll (sp_dawn σ P) F).2 F x z).1)) hx hb hr (fun t ht hW9 => ⟨⟨(((sp_workAll (sp_dawn σ P) F).1) + ((sp_eve (sp_workAll (sp_dawn σ P) F).2 F x z).1)), (sp_tourAll (sp_eve (sp_workAll (sp_dawn σ P) F).2 F x z).2 F), rfl, ⟨rfl, rfl⟩, ⟨by rw [ht]; exact hW, va_K.moved hW9.alike hK⟩⟩, hS.F ht⟩) hS.2.2 dX1_passDay_99
  · refine lv_aload_n hx hb dX1_passDay_20 rfl (lv_at hl 0 rfl) ?_
    refine hs_callv (As := []) ⟨hx, hb, hml, hown, hts⟩ (kX1_beginMonthOfAll l D d L (hs_sg σ 0 0 6 ((σ 0 0 6) + 1)) A P F R (hok.sg0 6 _ (by omega))) (cwV 0 hts gX1_passDay_X1_beginMonthOfAll rfl rfl rfl (by decide +kernel) ⟨Nat.le_of_ble_eq_true rfl, Nat.le_of_ble_eq_true rfl⟩) hK hE hW hS hs_ix0 (ci := cHo) (r := (RX1, TX1, 11)) rfl rfl rfl rfl hl.1 (Nat.le_of_ble_eq_true rfl) dX1_passDay_21 ⟨Nat.zero_le _, Nat.zero_le _⟩ rfl (fun τ_ H locs hp hW hS => ?_)
    obtain rfl := hp
    refine lv_aload_n hx hb dX1_passDay_24 rfl (lv_at hl 0 rfl) ?_
    have e_d : (sp_monAll (hs_sg σ 0 0 6 ((σ 0 0 6) + 1)) P) = sp_dawn σ P := by first | (simp only [sp_dawn, c_17, eq_self, ↓reduceIte]; done) | (simp [sp_dawn, c_17]; done)
    rw [e_d] at hW
    refine hs_calli (As := []) ⟨hx, hb, hml, hown, hts⟩ (kX1_workOnAll l D d L (sp_dawn σ P) A P F R (sp_dawn_ok P hok)) (cwV 0 hts gX1_passDay_X1_workOnAll rfl rfl rfl (by decide +kernel) ⟨Nat.le_of_ble_eq_true rfl, Nat.le_of_ble_eq_true rfl⟩) hK hE hW hS hs_ix0 (ci := cHo) (r := (RX1, TX1, 11)) rfl rfl rfl rfl hl.1 (Nat.le_of_ble_eq_true rfl) dX1_passDay_25 ⟨Nat.zero_le _, Nat.zero_le _⟩ rfl (fun r_ τ_ H locs hp hW hS => ?_)
    obtain ⟨rfl, rfl⟩ := hp
    refine lv_istore_n (lv' := [(3, .int ((sp_workAll (sp_dawn σ P) F).1)), (0, .ref (L 0 0)), (1, .int x), (2, .int z)]) hx hb dX1_passDay_28 rfl hl (by decide) rfl (fun ls hl => ?_)
    refine lv_aload_n hx hb dX1_passDay_29 rfl (lv_at hl 1 rfl) ?_
    refine lv_iconst (v := 0) hx hb dX1_passDay_30 (by decide) ?_
    refine lv_iconst (v := 4) hx hb dX1_passDay_31 (by decide) ?_
    refine hs_calli (As := [.int 0, .int 4]) ⟨hx, hb, hml, hown, hts⟩ (kX1_drawsIn l D d L ((sp_workAll (sp_dawn σ P) F).2) A 0 4 F hk2.hF hk2.2.1 hk2.hd) (cwV 2 hts gX1_passDay_X1_drawsIn rfl rfl rfl (by decide +kernel) ⟨Nat.le_of_ble_eq_true rfl, Nat.le_of_ble_eq_true rfl⟩) hK hE hW hS hs_ix0 (ci := cHo) (r := (RX1, TX1, 11)) rfl rfl rfl rfl hl.1 (Nat.le_of_ble_eq_true rfl) dX1_passDay_32 ⟨Nat.zero_le _, Nat.zero_le _⟩ rfl (fun r_ τ_ H locs hp hW hS => ?_)
    obtain ⟨rfl, rfl⟩ := hp
    refine lv_istore (lv' := [(4, .int (sp_draws ((sp_workAll (sp_dawn σ P) F).2) 0 4 F)), (3, .int ((sp_workAll (sp_dawn σ P) F).1)), (0, .ref (L 0 0)), (1, .int x), (2, .int z)]) hx hb dX1_passDay_35 hl (by decide) rfl (fun ls hl => ?_)
    refine lv_iload_n hx hb dX1_passDay_37 rfl (lv_at hl 3 rfl) ?_
    refine lv_bipush (v := 100) hx hb dX1_passDay_38 (by decide) ?_
    refine lv_iconst (v := 5) hx hb dX1_passDay_40 (by decide) ?_
    refine lv_aload_n hx hb dX1_passDay_41 rfl (lv_at hl 2 rfl) ?_
    refine va_get (D := D) (ci := cHo) (C := RX1) (T := TX1) (N := 11) (ws := [(L 0 0, hs_ct d L ((sp_workAll (sp_dawn σ P) F).2) 0 0)]) (v := .int ((sp_workAll (sp_dawn σ P) F).2 0 0 9)) hx hb hts (by decide +kernel) hown hK (hW.one hs_ix0) 0 rfl rfl 9 (by decide) (hts (.fieldLink RX1 43 "Waxrow$House" "price" "I") (by decide +kernel)) (fun _ h9 => h9) rfl dX1_passDay_42 ?_
    refine lv_imul hx hb dX1_passDay_45 ?_
    refine lv_isub hx hb dX1_passDay_46 ?_
    refine lv_imul hx hb dX1_passDay_47 ?_
    refine lv_bipush (v := 100) hx hb dX1_passDay_48 (by decide) ?_
    refine lv_idiv hx hb dX1_passDay_50 (by decide) ?_
    refine lv_istore (lv' := [(5, .int ((x * (100 - (5 * ((sp_workAll (sp_dawn σ P) F).2 0 0 9)))) / 100)), (4, .int (sp_draws ((sp_workAll (sp_dawn σ P) F).2) 0 4 F)), (3, .int ((sp_workAll (sp_dawn σ P) F).1)), (0, .ref (L 0 0)), (1, .int x), (2, .int z)]) hx hb dX1_passDay_51 hl (by decide) rfl (fun ls hl => ?_)
    refine lv_aload_n hx hb dX1_passDay_53 rfl (lv_at hl 3 rfl) ?_
    refine lv_dup hx hb dX1_passDay_54 rfl ?_
    refine va_get (D := D) (ci := cHo) (C := RX1) (T := TX1) (N := 11) (ws := [(L 0 0, hs_ct d L ((sp_workAll (sp_dawn σ P) F).2) 0 0)]) (v := .int ((sp_workAll (sp_dawn σ P) F).2 0 0 10)) hx hb hts (by decide +kernel) hown hK (hW.one hs_ix0) 0 rfl rfl 10 (by decide) (hts (.fieldLink RX1 58 "Waxrow$House" "came" "I") (by decide +kernel)) (fun _ h9 => h9) rfl dX1_passDay_55 ?_
    refine lv_iload hx hb dX1_passDay_58 (lv_at hl 0 rfl) ?_
    refine lv_iadd hx hb dX1_passDay_60 ?_
    refine hs_put (ci := cHo) (C := RX1) (T := TX1) (N := 11) (ty := .int) hx hb hts (by decide +kernel) tyX1 tyX1_ok nmX1 hown hK hW hS 0 0 hs_ix0 rfl rfl 10 (by decide) (hts (.fieldLink RX1 58 "Waxrow$House" "came" "I") (by decide +kernel)) (fun _ h9 => h9) rfl (by decide +kernel) rfl rfl (Nat.le_of_ble_eq_true rfl) (hs_sg ((sp_workAll (sp_dawn σ P) F).2) 0 0 10 (((sp_workAll (sp_dawn σ P) F).2 0 0 10) + ((x * (100 - (5 * ((sp_workAll (sp_dawn σ P) F).2 0 0 9)))) / 100))) (by simp [hs_ct, hs_sg]) (hs_off _ _ _ _ _) dX1_passDay_61 (fun H locs hW hS => ?_)
    refine lv_aload_n hx hb dX1_passDay_64 rfl (lv_at hl 3 rfl) ?_
    refine lv_dup hx hb dX1_passDay_65 rfl ?_
    refine va_get (D := D) (ci := cHo) (C := RX1) (T := TX1) (N := 11) (ws := [(L 0 0, hs_ct d L (hs_sg ((sp_workAll (sp_dawn σ P) F).2) 0 0 10 (((sp_workAll (sp_dawn σ P) F).2 0 0 10) + ((x * (100 - (5 * ((sp_workAll (sp_dawn σ P) F).2 0 0 9)))) / 100))) 0 0)]) (v := .int ((sp_workAll (sp_dawn σ P) F).2 0 0 7)) hx hb hts (by decide +kernel) hown hK (hW.one hs_ix0) 0 rfl rfl 7 (by decide) (hts (.fieldLink RX1 36 "Waxrow$House" "money" "I") (by decide +kernel)) (fun _ h9 => h9) (by simp [hs_sg]) dX1_passDay_66 ?_
    refine lv_aload_n hx hb dX1_passDay_69 rfl (lv_at hl 3 rfl) ?_
    refine va_get (D := D) (ci := cHo) (C := RX1) (T := TX1) (N := 11) (ws := [(L 0 0, hs_ct d L (hs_sg ((sp_workAll (sp_dawn σ P) F).2) 0 0 10 (((sp_workAll (sp_dawn σ P) F).2 0 0 10) + ((x * (100 - (5 * ((sp_workAll (sp_dawn σ P) F).2 0 0 9)))) / 100))) 0 0)]) (v := .int ((sp_workAll (sp_dawn σ P) F).2 0 0 9)) hx hb hts (by decide +kernel) hown hK (hW.one hs_ix0) 0 rfl rfl 9 (by decide) (hts (.fieldLink RX1 43 "Waxrow$House" "price" "I") (by decide +kernel)) (fun _ h9 => h9) (by simp [hs_sg]) dX1_passDay_70 ?_
    refine lv_iload hx hb dX1_passDay_73 (lv_at hl 0 rfl) ?_
    refine lv_imul hx hb dX1_passDay_75 ?_
    refine lv_iadd hx hb dX1_passDay_76 ?_
    refine hs_put (ci := cHo) (C := RX1) (T := TX1) (N := 11) (ty := .int) hx hb hts (by decide +kernel) tyX1 tyX1_ok nmX1 hown hK hW hS 0 0 hs_ix0 rfl rfl 7 (by decide) (hts (.fieldLink RX1 36 "Waxrow$House" "money" "I") (by decide +kernel)) (fun _ h9 => h9) rfl (by decide +kernel) rfl rfl (Nat.le_of_ble_eq_true rfl) (hs_sg (hs_sg ((sp_workAll (sp_dawn σ P) F).2) 0 0 10 (((sp_workAll (sp_dawn σ P) F).2 0 0 10) + ((x * (100 - (5 * ((sp_workAll (sp_dawn σ P) F).2 0 0 9)))) / 100))) 0 0 7 (((sp_workAll (sp_dawn σ P) F).2 0 0 7) + (((sp_workAll (sp_dawn σ P) F).2 0 0 9) * ((x * (100 - (5 * ((sp_workAll (sp_dawn σ P) F).2 0 0 9)))) / 100)))) (by simp [hs_ct, hs_sg]) (hs_off _ _ _ _ _) dX1_passDay_77 (fun H locs hW hS => ?_)
    refine lv_aload_n hx hb dX1_passDay_80 rfl (lv_at hl 3 rfl) ?_
    refine lv_iload hx hb dX1_passDay_81 (lv_at hl 0 rfl) ?_
    refine lv_iload hx hb dX1_passDay_83 (lv_at hl 1 rfl) ?_
    refine lv_iload_n hx hb dX1_passDay_85 rfl (lv_at hl 5 rfl) ?_
    refine hs_calli (As := [.int ((x * (100 - (5 * ((sp_workAll (sp_dawn σ P) F).2 0 0 9)))) / 100), .int (sp_draws ((sp_workAll (sp_dawn σ P) F).2) 0 4 F), .int z]) ⟨hx, hb, hml, hown, hts⟩ (kX1_wearAllShown l D d L (hs_sg (hs_sg ((sp_workAll (sp_dawn σ P) F).2) 0 0 10 (((sp_workAll (sp_dawn σ P) F).2 0 0 10) + ((x * (100 - (5 * ((sp_workAll (sp_dawn σ P) F).2 0 0 9)))) / 100))) 0 0 7 (((sp_workAll (sp_dawn σ P) F).2 0 0 7) + (((sp_workAll (sp_dawn σ P) F).2 0 0 9) * ((x * (100 - (5 * ((sp_workAll (sp_dawn σ P) F).2 0 0 9)))) / 100)))) A P F R (sp_paid_ok x hk2) ((x * (100 - (5 * ((sp_workAll (sp_dawn σ P) F).2 0 0 9)))) / 100) (sp_draws ((sp_workAll (sp_dawn σ P) F).2) 0 4 F) z) (cwV 3 hts gX1_passDay_X1_wearAllShown rfl rfl rfl (by decide +kernel) ⟨Nat.le_of_ble_eq_true rfl, Nat.le_of_ble_eq_true rfl⟩) hK hE hW hS hs_ix0 (ci := cHo) (r := (RX1, TX1, 11)) rfl rfl rfl rfl hl.1 (Nat.le_of_ble_eq_true rfl) dX1_passDay_86 ⟨Nat.zero_le _, Nat.zero_le _⟩ rfl (fun r_ τ_ H locs hp hW hS => ?_)
    obtain ⟨rfl, rfl⟩ := hp
    refine lv_istore (lv' := [(6, .int ((sp_eve (sp_workAll (sp_dawn σ P) F).2 F x z).1)), (5, .int ((x * (100 - (5 * ((sp_workAll (sp_dawn σ P) F).2 0 0 9)))) / 100)), (4, .int (sp_draws ((sp_workAll (sp_dawn σ P) F).2) 0 4 F)), (3, .int ((sp_workAll (sp_dawn σ P) F).1)), (0, .ref (L 0 0)), (1, .int x), (2, .int z)]) hx hb dX1_passDay_89 hl (by decide) rfl (fun ls hl => ?_)
    refine lv_aload_n hx hb dX1_passDay_91 rfl (lv_at hl 4 rfl) ?_
    refine hs_callv (As := []) ⟨hx, hb, hml, hown, hts⟩ (kX1_tourWithAll l D d L ((sp_eve (sp_workAll (sp_dawn σ P) F).2 F x z).2) A P F R (sp_wearAll_ok (sp_paid_ok x hk2) F)) (cwV 0 hts gX1_passDay_X1_tourWithAll rfl rfl rfl (by decide +kernel) ⟨Nat.le_of_ble_eq_true rfl, Nat.le_of_ble_eq_true rfl⟩) hK hE hW hS hs_ix0 (ci := cHo) (r := (RX1, TX1, 11)) rfl rfl rfl rfl hl.1 (Nat.le_of_ble_eq_true rfl) dX1_passDay_92 ⟨Nat.zero_le _, Nat.zero_le _⟩ rfl (fun τ_ H locs hp hW hS => ?_)
    obtain rfl := hp
    refine lv_iload_n hx hb dX1_passDay_95 rfl (lv_at hl 3 rfl) ?_
    refine lv_iload hx hb dX1_passDay_96 (lv_at hl 0 rfl) ?_
    refine lv_iadd hx hb dX1_passDay_98 ?_
    exact W.iret (v := ((sp_workAll (sp_dawn σ P) F).1) + ((sp_eve (sp_workAll (sp_dawn σ P) F).2 F x z).1)) hx hb hr (fun t ht hW9 => ⟨⟨(((sp_workAll (sp_dawn σ P) F).1) + ((sp_eve (sp_workAll (sp_dawn σ P) F).2 F x z).1)), (sp_tourAll (sp_eve (sp_workAll (sp_dawn σ P) F).2 F x z).2 F), rfl, ⟨rfl, rfl⟩, ⟨by rw [ht]; exact hW, va_K.moved hW9.alike hK⟩⟩, hS.F ht⟩) hS.2.2 dX1_passDay_99
