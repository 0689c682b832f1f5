/-! THE DIGEST -/
theorem kX4_many (l : Launch) (D : va_G) (d : hs_Dm) (L : hs_Lo) (σ : hs_St) (A : Nat → Prop) (w : Nat) (L2 : hs_Lo) (hwA : ¬ A w) (P F R : Nat) (hok : hs_ok P F R σ) (n : Nat) (hn : n < 15) : wx_Mi l yX4_many wsX4_many ({ frames := 5, cells := 0, slots := 0, locals := 100 }) D d w L L2 σ A [.ref w, .int (nI n)] (fun u τ => sp_many σ P F n = u ∧ σ = τ) := by
  match n, hn with
  | 0, _ => exact kX4_many_0 l D d L σ A w L2 hwA P F R hok
  | 1, _ => exact kX4_many_1 l D d L σ A w L2 hwA P F R hok
  | 2, _ => exact kX4_many_2 l D d L σ A w L2 hwA P F R hok
  | 3, _ => exact kX4_many_3 l D d L σ A w L2 hwA P F R hok
  | 4, _ => exact kX4_many_4 l D d L σ A w L2 hwA P F R hok
  | 5, _ => exact kX4_many_5 l D d L σ A w L2 hwA P F R hok
  | 6, _ => exact kX4_many_6 l D d L σ A w L2 hwA P F R hok
  | 7, _ => exact kX4_many_7 l D d L σ A w L2 hwA P F R hok
  | 8, _ => exact kX4_many_8 l D d L σ A w L2 hwA P F R hok
  | 9, _ => exact kX4_many_9 l D d L σ A w L2 hwA P F R hok
  | 10, _ => exact kX4_many_10 l D d L σ A w L2 hwA P F R hok
  | 11, _ => exact kX4_many_11 l D d L σ A w L2 hwA P F R hok
  | 12, _ => exact kX4_many_12 l D d L σ A w L2 hwA P F R hok
  | 13, _ => exact kX4_many_13 l D d L σ A w L2 hwA P F R hok
  | 14, _ => exact kX4_many_14 l D d L σ A w L2 hwA P F R hok
  | n + 15, h => exact absurd h (by omega)
theorem kX4_ofPerson (l : Launch) (D : va_G) (d : hs_Dm) (L : hs_Lo) (σ : hs_St) (A : Nat → Prop) (w : Nat) (L2 : hs_Lo) (hwA : ¬ A w) (P F R : Nat) (hok : hs_ok P F R σ) (q : Nat) (hq : q < P) (n : Nat) (hn : n < 11) : wx_Mi l yX4_ofPerson wsX4_ofPerson ({ frames := 5, cells := 0, slots := 0, locals := 100 }) D d w L L2 σ A [.ref w, .int (nI q), .int (nI n)] (fun u τ => sp_ofP σ F q n = u ∧ σ = τ) := by
  match n, hn with
  | 0, _ => exact kX4_ofPerson_0 l D d L σ A w L2 hwA P F R hok q hq
  | 1, _ => exact kX4_ofPerson_1 l D d L σ A w L2 hwA P F R hok q hq
  | 2, _ => exact kX4_ofPerson_2 l D d L σ A w L2 hwA P F R hok q hq
  | 3, _ => exact kX4_ofPerson_3 l D d L σ A w L2 hwA P F R hok q hq
  | 4, _ => exact kX4_ofPerson_4 l D d L σ A w L2 hwA P F R hok q hq
  | 5, _ => exact kX4_ofPerson_5 l D d L σ A w L2 hwA P F R hok q hq
  | 6, _ => exact kX4_ofPerson_6 l D d L σ A w L2 hwA P F R hok q hq
  | 7, _ => exact kX4_ofPerson_7 l D d L σ A w L2 hwA P F R hok q hq
  | 8, _ => exact kX4_ofPerson_8 l D d L σ A w L2 hwA P F R hok q hq
  | 9, _ => exact kX4_ofPerson_9 l D d L σ A w L2 hwA P F R hok q hq
  | 10, _ => exact kX4_ofPerson_10 l D d L σ A w L2 hwA P F R hok q hq
  | n + 11, h => exact absurd h (by omega)
theorem kX4_ofFigure (l : Launch) (D : va_G) (d : hs_Dm) (L : hs_Lo) (σ : hs_St) (A : Nat → Prop) (w : Nat) (L2 : hs_Lo) (hwA : ¬ A w) (P F R : Nat) (hok : hs_ok P F R σ) (f : Nat) (hf : f < F) (n : Nat) (hn : n < 12) : wx_Mi l yX4_ofFigure wsX4_ofFigure ({ frames := 5, cells := 0, slots := 0, locals := 100 }) D d w L L2 σ A [.ref w, .int (nI f), .int (nI n)] (fun u τ => sp_ofF σ f n = u ∧ σ = τ) := by
  match n, hn with
  | 0, _ => exact kX4_ofFigure_0 l D d L σ A w L2 hwA P F R hok f hf
  | 1, _ => exact kX4_ofFigure_1 l D d L σ A w L2 hwA P F R hok f hf
  | 2, _ => exact kX4_ofFigure_2 l D d L σ A w L2 hwA P F R hok f hf
  | 3, _ => exact kX4_ofFigure_3 l D d L σ A w L2 hwA P F R hok f hf
  | 4, _ => exact kX4_ofFigure_4 l D d L σ A w L2 hwA P F R hok f hf
  | 5, _ => exact kX4_ofFigure_5 l D d L σ A w L2 hwA P F R hok f hf
  | 6, _ => exact kX4_ofFigure_6 l D d L σ A w L2 hwA P F R hok f hf
  | 7, _ => exact kX4_ofFigure_7 l D d L σ A w L2 hwA P F R hok f hf
  | 8, _ => exact kX4_ofFigure_8 l D d L σ A w L2 hwA P F R hok f hf
  | 9, _ => exact kX4_ofFigure_9 l D d L σ A w L2 hwA P F R hok f hf
  | 10, _ => exact kX4_ofFigure_10 l D d L σ A w L2 hwA P F R hok f hf
  | 11, _ => exact kX4_ofFigure_11 l D d L σ A w L2 hwA P F R hok f hf
  | n + 12, h => exact absurd h (by omega)
theorem kX4_ofRoom (l : Launch) (D : va_G) (d : hs_Dm) (L : hs_Lo) (σ : hs_St) (A : Nat → Prop) (w : Nat) (L2 : hs_Lo) (hwA : ¬ A w) (P F R : Nat) (hok : hs_ok P F R σ) (r : Nat) (hr5 : r < R) (n : Nat) (hn : n < 4) : wx_Mi l yX4_ofRoom wsX4_ofRoom ({ frames := 5, cells := 0, slots := 0, locals := 100 }) D d w L L2 σ A [.ref w, .int (nI r), .int (nI n)] (fun u τ => sp_ofR σ F r n = u ∧ σ = τ) := by
  match n, hn with
  | 0, _ => exact kX4_ofRoom_0 l D d L σ A w L2 hwA P F R hok r hr5
  | 1, _ => exact kX4_ofRoom_1 l D d L σ A w L2 hwA P F R hok r hr5
  | 2, _ => exact kX4_ofRoom_2 l D d L σ A w L2 hwA P F R hok r hr5
  | 3, _ => exact kX4_ofRoom_3 l D d L σ A w L2 hwA P F R hok r hr5
  | n + 4, h => exact absurd h (by omega)
def sp_h (d : Int64) (r : Int32) : Int64 := d * 31 + r.toInt64
def sp_gP (σ : hs_St) (F q : Nat) (d : Int64) : Nat → Int64
  | 0 => d
  | n + 1 => sp_h (sp_gP σ F q d n) (sp_ofP σ F q n)
def sp_gK (σ : hs_St) (q : Nat) (d : Int64) : Nat → Int64
  | 0 => d
  | n + 1 => sp_h (sp_h (sp_gK σ q d n) (σ 7 q n)) (σ 8 q n)
def sp_gW (σ : hs_St) (F q : Nat) (d : Int64) : Int64 := sp_h (sp_gK σ q (sp_gP σ F q d 11) 6) (sp_fame σ q 0 9)
def sp_gM (σ : hs_St) (P F : Nat) : Nat → Int64
  | 0 => 58234
  | n + 1 => sp_h (sp_gM σ P F n) (sp_many σ P F n)
def sp_gPs (σ : hs_St) (F : Nat) (d : Int64) : Nat → Int64
  | 0 => d
  | n + 1 => sp_gW σ F n (sp_gPs σ F d n)
def sp_gF (σ : hs_St) (f : Nat) (d : Int64) : Nat → Int64
  | 0 => d
  | n + 1 => sp_h (sp_gF σ f d n) (sp_ofF σ f n)
def sp_gFs (σ σ2 : hs_St) (P F R : Nat) (d : Int64) : Nat → Int64 × hs_St
  | 0 => (d, σ2)
  | n + 1 => (sp_h (sp_h (sp_gF σ n (sp_gFs σ σ2 P F R d n).1 12) (sp_days σ n)) (sp_mIn σ (sp_gFs σ σ2 P F R d n).2 P F R n 900 30).1, (sp_mIn σ (sp_gFs σ σ2 P F R d n).2 P F R n 900 30).2)
def sp_gR (σ : hs_St) (F r : Nat) (d : Int64) : Nat → Int64
  | 0 => d
  | n + 1 => sp_h (sp_gR σ F r d n) (sp_ofR σ F r n)
def sp_gRs (σ : hs_St) (F : Nat) (d : Int64) : Nat → Int64
  | 0 => d
  | n + 1 => sp_gR σ F n (sp_gRs σ F d n) 4
def sp_gE (σ : hs_St) (P F R : Nat) (d : Int64) : Int64 := sp_h (sp_gRs σ F d R) (sp_best σ F P).1
def sp_dig (σ σ2 : hs_St) (P F R : Nat) : Int64 × hs_St := (sp_gE σ P F R (sp_gFs σ σ2 P F R (sp_gPs σ F (sp_gM σ P F 15) P) F).1, (sp_gFs σ σ2 P F R (sp_gPs σ F (sp_gM σ P F 15) P) F).2)
def tr_ok (R : Nat) (σ2 : hs_St) : Prop := ∃ P2 F2 R2, hs_ok P2 F2 R2 σ2 ∧ R2 ≤ R
theorem sp_td_ok {P F R : Nat} {τ0 : hs_St} (h : hs_ok P F R τ0) (f : Nat) (x z : Int32) : ∀ k n, hs_ok P F R (sp_td τ0 P F f x z k n).2
  | 0, n => sp_pass_ok x z h n
  | k + 1, n => by
    unfold sp_td
    by_cases e : (sp_pass τ0 P F x z (n + 1)).2 9 f 7 = 7
    · rw [if_pos e]; exact sp_pass_ok x z h (n + 1)
    · rw [if_neg e]; exact sp_td_ok h f x z k (n + 1)
theorem sp_mIn_ok {P F R : Nat} {σ σ2 : hs_St} (h : hs_ok P F R σ) (h2 : tr_ok R σ2) (f : Nat) (x z : Int32) : tr_ok R (sp_mIn σ σ2 P F R f x z).2 := by
  unfold sp_mIn
  by_cases e : sp_isShown σ f = 0
  · rw [if_pos e]; exact h2
  · rw [if_neg e]
    obtain ⟨P2, F2, R2, h3, h4⟩ := h2
    exact ⟨P, F, R, sp_td_ok (sp_copy_ok h3 h4 h) f x z 60 0, Nat.le_refl _⟩
theorem sp_gFs_ok {P F R : Nat} {σ σ2 : hs_St} (h : hs_ok P F R σ) (h2 : tr_ok R σ2) (d : Int64) : ∀ n, tr_ok R (sp_gFs σ σ2 P F R d n).2
  | 0 => h2
  | n + 1 => sp_mIn_ok h (sp_gFs_ok h h2 d n) n 900 30
set_option maxHeartbeats 4000000 in
set_option maxRecDepth 100000 in
/-- digestWithPerson: the loop at 39 -/
theorem lk2X4_digestWithPerson (l : Launch) (D : va_G) (d : hs_Dm) (L : hs_Lo) (σ : hs_St) (A : Nat → Prop) (w : Nat) (L2 : hs_Lo) (A2 : Nat → Prop) (hdis : ∀ q, A2 q → ¬ A q) (hwB : ¬ tw_A A A2 w) (P F R : Nat) (hok : hs_ok P F R σ) (d0 : Int64) (q : Nat) (hq : q < P) (σt : hs_St)  {p : Program} {e : Env} {s : State} {m : MethodId} {args : Array Value} {below : List Frame} {meth : Method} {c : Code} (hx : p.tables.exec = Jvm.exec) (hb : c.code = cX4_digestWithPerson) (hr : meth.sig.returnType = (some .long)) (hts : ∀ w ∈ wsX4_digestWithPerson, w.before args s = true) (hown : s.vm.findClass RX4 = some m.cls) (hlocks : meth.locks = false) (hml : c.maxLocals = 7) (hK : va_K D vwCl (hs_ty d) s) (hX : hx_E d.2.2.2.2 (tw_A A A2) s) (hV : va_at D vwCl (w, .inr (cWx, [.ref (L 0 0), .ref (L2 0 0)])) s.heap) : ∀ (k n : Nat), n + k = 6 → ∀ (H : Heap) (locs : List Loc), hs_W D d L σ A H → hs_W D d L2 σt A2 H → va_S (tw_A A A2) s.heap H locs → ∀ ls : Array Slot, lv_has ls 7 [(0, .ref w), (3, .int (nI q)), (4, .long (sp_gK σ q d0 n)), (6, .int (nI n))] → W p l e (({ frames := 7, cells := 0, slots := 0, locals := 160 }) : Room) s m args below meth c H locs 0 0 (MQ below (va_Ql (fun r τ => sp_h (sp_gK σ q d0 6) (sp_fame σ q 0 9) = r ∧ σt = τ) (fun τ t => tw_B D d L σ A L2 τ A2 t) (tw_A A A2)) args s 0 0 (tw_A A A2)) (F0 m 39 ls []) := by
  intro k
  induction k with
  | zero =>
    intro n hn H locs hW hW2 hS ls hl
    have hE := hX.1
    have hwA : ¬ A w := fun q => hwB (Or.inl q)
    have hAB : ∀ q, A q → tw_A A A2 q := fun q h => Or.inl h
    have hAB2 : ∀ q, A2 q → tw_A A A2 q := fun q h => Or.inr h
    have hdis2 : ∀ q, A q → ¬ A2 q := fun q h h2 => hdis q h2 h
    have h10 := hok.1
    have h8 := hok.2.1
    have h5 := hok.2.2.1
    have hnN : n = 6 := by omega
    refine lv_iload hx hb dX4_digestWithPerson_39 (lv_at hl 3 rfl) ?_
    refine lv_bipush (v := 6) hx hb dX4_digestWithPerson_41 (by decide) ?_
    refine lv_icmp_ge (tgt := 88) hx hb dX4_digestWithPerson_43 (by decide) (fun c_43 => ?_) (fun c_43 => ?_)
    · refine lv_lload hx hb dX4_digestWithPerson_88 (lv_at hl 2 rfl) ?_
      refine lv_ldc2 (v := 31) hx hb hown (hts (.constantLong RX4 244 31) (by decide +kernel)) dX4_digestWithPerson_90 ?_
      refine lv_lmul hx hb dX4_digestWithPerson_93 ?_
      refine lv_aload_n hx hb dX4_digestWithPerson_94 rfl (lv_at hl 0 rfl) ?_
      refine lv_iload_n hx hb dX4_digestWithPerson_95 rfl (lv_at hl 1 rfl) ?_
      refine lv_iconst (v := nI 0) hx hb dX4_digestWithPerson_96 (by decide +kernel) ?_
      refine lv_bipush (v := nI 9) hx hb dX4_digestWithPerson_97 (by decide +kernel) ?_
      refine tw_wxi (As := [.int (nI q), .int (nI 0), .int (nI 9)]) ⟨hx, hb, hml, hown, hts⟩ (kX4_wouldFame l D d L σ A w L2 hwA P F R hok q hq 0 (by decide) 9 (by decide)) (cwV 3 hts gX4_digestWithPerson_X4_wouldFame rfl rfl rfl (by decide +kernel) ⟨Nat.le_of_ble_eq_true rfl, Nat.le_of_ble_eq_true rfl⟩) hK hE hW hW2 hAB hdis hS hX hV hwB rfl hl.1 (Nat.le_of_ble_eq_true rfl) dX4_digestWithPerson_99 ⟨Nat.zero_le _, Nat.zero_le _⟩ rfl (fun r_ τ_ H locs hp hW hW2 hS => ?_)
      obtain ⟨rfl, rfl⟩ := hp
      refine lv_i2l hx hb dX4_digestWithPerson_102 rfl ?_
      refine lv_ladd hx hb dX4_digestWithPerson_103 ?_
      exact W.lret (v := ((sp_gK σ q d0 n) * 31) + ((sp_fame σ q 0 9).toInt64)) hx hb hr (fun t ht hW9 => ⟨⟨(((sp_gK σ q d0 n) * 31) + ((sp_fame σ q 0 9).toInt64)), σt, rfl, ⟨by rw [hnN]; rfl, rfl⟩, by rw [ht]; exact hW, by rw [ht]; exact hW2, va_K.moved hW9.alike hK⟩, hS.F ht⟩) hS.2.2 dX4_digestWithPerson_104
    · exact absurd (by rw [hnN]; decide +kernel) c_43
  | succ k ih =>
    intro n hn H locs hW hW2 hS ls hl
    have hE := hX.1
    have hwA : ¬ A w := fun q => hwB (Or.inl q)
    have hAB : ∀ q, A q → tw_A A A2 q := fun q h => Or.inl h
    have hAB2 : ∀ q, A2 q → tw_A A A2 q := fun q h => Or.inr h
    have hdis2 : ∀ q, A q → ¬ A2 q := fun q h h2 => hdis q h2 h
    have h10 := hok.1
    have h8 := hok.2.1
    have h5 := hok.2.2.1
    have hnN : n < 6 := by omega
    refine lv_iload hx hb dX4_digestWithPerson_39 (lv_at hl 3 rfl) ?_
    refine lv_bipush (v := 6) hx hb dX4_digestWithPerson_41 (by decide) ?_
    refine lv_icmp_ge (tgt := 88) hx hb dX4_digestWithPerson_43 (by decide) (fun c_43 => ?_) (fun c_43 => ?_)
    · exact absurd c_43 (by rw [show (6 : Int32) = nI 6 from by decide +kernel]; exact nI_ge hnN (by decide))
    · refine lv_lload hx hb dX4_digestWithPerson_46 (lv_at hl 2 rfl) ?_
      refine lv_ldc2 (v := 31) hx hb hown (hts (.constantLong RX4 244 31) (by decide +kernel)) dX4_digestWithPerson_48 ?_
      refine lv_lmul hx hb dX4_digestWithPerson_51 ?_
      refine lv_aload_n hx hb dX4_digestWithPerson_52 rfl (lv_at hl 0 rfl) ?_
      refine lv_iload_n hx hb dX4_digestWithPerson_53 rfl (lv_at hl 1 rfl) ?_
      refine lv_iload hx hb dX4_digestWithPerson_54 (lv_at hl 3 rfl) ?_
      refine lv_iconst (v := 0) hx hb dX4_digestWithPerson_56 (by decide) ?_
      refine tw_wxi (As := [.int (nI q), .int (nI n), .int 0]) ⟨hx, hb, hml, hown, hts⟩ (kX4_known_0 l D d L σ A w L2 hwA P F R hok q hq n hnN) (cwV 3 hts gX4_digestWithPerson_X4_known rfl rfl rfl (by decide +kernel) ⟨Nat.le_of_ble_eq_true rfl, Nat.le_of_ble_eq_true rfl⟩) hK hE hW hW2 hAB hdis hS hX hV hwB rfl hl.1 (Nat.le_of_ble_eq_true rfl) dX4_digestWithPerson_57 ⟨Nat.zero_le _, Nat.zero_le _⟩ rfl (fun r_ τ_ H locs hp hW hW2 hS => ?_)
      obtain ⟨rfl, rfl⟩ := hp
      refine lv_i2l hx hb dX4_digestWithPerson_60 rfl ?_
      refine lv_ladd hx hb dX4_digestWithPerson_61 ?_
      refine lv_lstore (lv' := [(4, .long (((sp_gK σ q d0 n) * 31) + ((σ 7 q n).toInt64))), (0, .ref w), (3, .int (nI q)), (6, .int (nI n))]) hx hb dX4_digestWithPerson_62 hl (by decide) rfl (fun ls hl => ?_)
      refine lv_lload hx hb dX4_digestWithPerson_64 (lv_at hl 0 rfl) ?_
      refine lv_ldc2 (v := 31) hx hb hown (hts (.constantLong RX4 244 31) (by decide +kernel)) dX4_digestWithPerson_66 ?_
      refine lv_lmul hx hb dX4_digestWithPerson_69 ?_
      refine lv_aload_n hx hb dX4_digestWithPerson_70 rfl (lv_at hl 1 rfl) ?_
      refine lv_iload_n hx hb dX4_digestWithPerson_71 rfl (lv_at hl 2 rfl) ?_
      refine lv_iload hx hb dX4_digestWithPerson_72 (lv_at hl 3 rfl) ?_
      refine lv_iconst (v := 1) hx hb dX4_digestWithPerson_74 (by decide) ?_
      refine tw_wxi (As := [.int (nI q), .int (nI n), .int 1]) ⟨hx, hb, hml, hown, hts⟩ (kX4_known_1 l D d L σ A w L2 hwA P F R hok q hq n hnN) (cwV 3 hts gX4_digestWithPerson_X4_known rfl rfl rfl (by decide +kernel) ⟨Nat.le_of_ble_eq_true rfl, Nat.le_of_ble_eq_true rfl⟩) hK hE hW hW2 hAB hdis hS hX hV hwB rfl hl.1 (Nat.le_of_ble_eq_true rfl) dX4_digestWithPerson_75 ⟨Nat.zero_le _, Nat.zero_le _⟩ rfl (fun r_ τ_ H locs hp hW hW2 hS => ?_)
      obtain ⟨rfl, rfl⟩ := hp
      refine lv_i2l hx hb dX4_digestWithPerson_78 rfl ?_
      refine lv_ladd hx hb dX4_digestWithPerson_79 ?_
      refine lv_lstore (lv' := [(4, .long (((((sp_gK σ q d0 n) * 31) + ((σ 7 q n).toInt64)) * 31) + ((σ 8 q n).toInt64))), (0, .ref w), (3, .int (nI q)), (6, .int (nI n))]) hx hb dX4_digestWithPerson_80 hl (by decide) rfl (fun ls hl => ?_)
      refine lv_iinc (v := nI (n + 1)) (lv' := [(6, .int (nI (n + 1))), (4, .long (((((sp_gK σ q d0 n) * 31) + ((σ 7 q n).toInt64)) * 31) + ((σ 8 q n).toInt64))), (0, .ref w), (3, .int (nI q))]) hx hb dX4_digestWithPerson_82 hl (k := 3) rfl (nI_succ _).symm (by decide) rfl (fun ls hl => ?_)
      refine lv_goto (tgt := 39) hx hb dX4_digestWithPerson_85 (by decide) ?_
      exact ih (n + 1) (by omega) _ _ hW hW2 hS ls (lv_sub hl [2, 3, 1, 0] rfl)
set_option maxHeartbeats 4000000 in
set_option maxRecDepth 100000 in
/-- digestWithPerson: the loop at 6 -/
theorem lk1X4_digestWithPerson (l : Launch) (D : va_G) (d : hs_Dm) (L : hs_Lo) (σ : hs_St) (A : Nat → Prop) (w : Nat) (L2 : hs_Lo) (A2 : Nat → Prop) (hdis : ∀ q, A2 q → ¬ A q) (hwB : ¬ tw_A A A2 w) (P F R : Nat) (hok : hs_ok P F R σ) (d0 : Int64) (q : Nat) (hq : q < P) (σt : hs_St)  {p : Program} {e : Env} {s : State} {m : MethodId} {args : Array Value} {below : List Frame} {meth : Method} {c : Code} (hx : p.tables.exec = Jvm.exec) (hb : c.code = cX4_digestWithPerson) (hr : meth.sig.returnType = (some .long)) (hts : ∀ w ∈ wsX4_digestWithPerson, w.before args s = true) (hown : s.vm.findClass RX4 = some m.cls) (hlocks : meth.locks = false) (hml : c.maxLocals = 7) (hK : va_K D vwCl (hs_ty d) s) (hX : hx_E d.2.2.2.2 (tw_A A A2) s) (hV : va_at D vwCl (w, .inr (cWx, [.ref (L 0 0), .ref (L2 0 0)])) s.heap) : ∀ (k n : Nat), n + k = 11 → ∀ (H : Heap) (locs : List Loc), hs_W D d L σ A H → hs_W D d L2 σt A2 H → va_S (tw_A A A2) s.heap H locs → ∀ ls : Array Slot, lv_has ls 7 [(0, .ref w), (3, .int (nI q)), (4, .long (sp_gP σ F q d0 n)), (6, .int (nI n))] → W p l e (({ frames := 7, cells := 0, slots := 0, locals := 160 }) : Room) s m args below meth c H locs 0 0 (MQ below (va_Ql (fun r τ => sp_gW σ F q d0 = r ∧ σt = τ) (fun τ t => tw_B D d L σ A L2 τ A2 t) (tw_A A A2)) args s 0 0 (tw_A A A2)) (F0 m 6 ls []) := by
  intro k
  induction k with
  | zero =>
    intro n hn H locs hW hW2 hS ls hl
    have hE := hX.1
    have hwA : ¬ A w := fun q => hwB (Or.inl q)
    have hAB : ∀ q, A q → tw_A A A2 q := fun q h => Or.inl h
    have hAB2 : ∀ q, A2 q → tw_A A A2 q := fun q h => Or.inr h
    have hdis2 : ∀ q, A q → ¬ A2 q := fun q h h2 => hdis q h2 h
    have h10 := hok.1
    have h8 := hok.2.1
    have h5 := hok.2.2.1
    have hnN : n = 11 := by omega
    refine lv_iload hx hb dX4_digestWithPerson_6 (lv_at hl 3 rfl) ?_
    refine lv_bipush (v := 10) hx hb dX4_digestWithPerson_8 (by decide) ?_
    refine lv_icmp_gt (tgt := 36) hx hb dX4_digestWithPerson_10 (by decide) (fun c_10 => ?_) (fun c_10 => ?_)
    · refine lv_iconst (v := 0) hx hb dX4_digestWithPerson_36 (by decide) ?_
      refine lv_istore (lv' := [(6, .int 0), (0, .ref w), (3, .int (nI q)), (4, .long (sp_gP σ F q d0 n))]) hx hb dX4_digestWithPerson_37 hl (by decide) rfl (fun ls hl => ?_)
      rw [hnN] at hl
      exact lk2X4_digestWithPerson l D d L σ A w L2 A2 hdis hwB P F R hok (sp_gP σ F q d0 11) q hq σt hx hb hr hts hown hlocks hml hK hX hV 6 0 (by omega) _ _ hW hW2 hS ls (lv_sub hl [1, 2, 3, 0] rfl)
    · exact absurd (by rw [hnN]; decide +kernel) c_10
  | succ k ih =>
    intro n hn H locs hW hW2 hS ls hl
    have hE := hX.1
    have hwA : ¬ A w := fun q => hwB (Or.inl q)
    have hAB : ∀ q, A q → tw_A A A2 q := fun q h => Or.inl h
    have hAB2 : ∀ q, A2 q → tw_A A A2 q := fun q h => Or.inr h
    have hdis2 : ∀ q, A q → ¬ A2 q := fun q h h2 => hdis q h2 h
    have h10 := hok.1
    have h8 := hok.2.1
    have h5 := hok.2.2.1
    have hnN : n < 11 := by omega
    refine lv_iload hx hb dX4_digestWithPerson_6 (lv_at hl 3 rfl) ?_
    refine lv_bipush (v := 10) hx hb dX4_digestWithPerson_8 (by decide) ?_
    refine lv_icmp_gt (tgt := 36) hx hb dX4_digestWithPerson_10 (by decide) (fun c_10 => ?_) (fun c_10 => ?_)
    · exact absurd c_10 (by rw [show (10 : Int32) = nI 10 from by decide +kernel]; exact nI_nlt (by omega) (by omega))
    · refine lv_lload hx hb dX4_digestWithPerson_13 (lv_at hl 2 rfl) ?_
      refine lv_ldc2 (v := 31) hx hb hown (hts (.constantLong RX4 244 31) (by decide +kernel)) dX4_digestWithPerson_15 ?_
      refine lv_lmul hx hb dX4_digestWithPerson_18 ?_
      refine lv_aload_n hx hb dX4_digestWithPerson_19 rfl (lv_at hl 0 rfl) ?_
      refine lv_iload_n hx hb dX4_digestWithPerson_20 rfl (lv_at hl 1 rfl) ?_
      refine lv_iload hx hb dX4_digestWithPerson_21 (lv_at hl 3 rfl) ?_
      refine tw_wxi (As := [.int (nI q), .int (nI n)]) ⟨hx, hb, hml, hown, hts⟩ (kX4_ofPerson l D d L σ A w L2 hwA P F R hok q hq n hnN) (cwV 2 hts gX4_digestWithPerson_X4_ofPerson rfl rfl rfl (by decide +kernel) ⟨Nat.le_of_ble_eq_true rfl, Nat.le_of_ble_eq_true rfl⟩) hK hE hW hW2 hAB hdis hS hX hV hwB rfl hl.1 (Nat.le_of_ble_eq_true rfl) dX4_digestWithPerson_23 ⟨Nat.zero_le _, Nat.zero_le _⟩ rfl (fun r_ τ_ H locs hp hW hW2 hS => ?_)
      obtain ⟨rfl, rfl⟩ := hp
      refine lv_i2l hx hb dX4_digestWithPerson_26 rfl ?_
      refine lv_ladd hx hb dX4_digestWithPerson_27 ?_
      refine lv_lstore (lv' := [(4, .long (((sp_gP σ F q d0 n) * 31) + ((sp_ofP σ F q n).toInt64))), (0, .ref w), (3, .int (nI q)), (6, .int (nI n))]) hx hb dX4_digestWithPerson_28 hl (by decide) rfl (fun ls hl => ?_)
      refine lv_iinc (v := nI (n + 1)) (lv' := [(6, .int (nI (n + 1))), (4, .long (((sp_gP σ F q d0 n) * 31) + ((sp_ofP σ F q n).toInt64))), (0, .ref w), (3, .int (nI q))]) hx hb dX4_digestWithPerson_30 hl (k := 3) rfl (nI_succ _).symm (by decide) rfl (fun ls hl => ?_)
      refine lv_goto (tgt := 6) hx hb dX4_digestWithPerson_33 (by decide) ?_
      exact ih (n + 1) (by omega) _ _ hW hW2 hS ls (lv_sub hl [2, 3, 1, 0] rfl)
set_option maxHeartbeats 4000000 in
set_option maxRecDepth 100000 in
/-- digestWithPerson -/
theorem kX4_digestWithPerson (l : Launch) (D : va_G) (d : hs_Dm) (L : hs_Lo) (σ : hs_St) (A : Nat → Prop) (w : Nat) (L2 : hs_Lo) (A2 : Nat → Prop) (hdis : ∀ q, A2 q → ¬ A q) (hwB : ¬ tw_A A A2 w) (P F R : Nat) (hok : hs_ok P F R σ) (σ2 : hs_St) (d0 : Int64) (q : Nat) (hq : q < P) : tw_Ml l yX4_digestWithPerson wsX4_digestWithPerson ({ frames := 7, cells := 0, slots := 0, locals := 160 }) D d w L σ A L2 σ2 A2 [.ref w, .long d0, .int (nI q)] (fun r τ => sp_gW σ F q d0 = r ∧ σ2 = τ) := by
  refine Met.ofW (cc := cX4_digestWithPerson) (maxL := 7) (ret := (some .long)) (by decide) rfl ?_
  intro p e s m args below meth c s₁ B hml hv
  obtain ⟨rfl, ⟨hW, hW2, hK⟩, hX, hV⟩ := hv
  have hx := B.exec
  have hb := B.bytes
  have hr := B.returns
  have hts := atoms_spec (ws := wsX4_digestWithPerson) B.pre
  have hown : s.vm.findClass RX4 = some m.cls := findClass_of_methodNamed B.named
  have hlocks := B.notSynchronized
  have hS : va_S (tw_A A A2) s.heap s.heap [] := va_S.rf
  have hE := hX.1
  have hwA : ¬ A w := fun q => hwB (Or.inl q)
  have hAB : ∀ q, A q → tw_A A A2 q := fun q h => Or.inl h
  have hAB2 : ∀ q, A2 q → tw_A A A2 q := fun q h => Or.inr h
  have hdis2 : ∀ q, A q → ¬ A2 q := fun q h h2 => hdis q h2 h
  have h10 := hok.1
  have h8 := hok.2.1
  have h5 := hok.2.2.1
  have hl := lv_entry ([.ref w, .long d0, .int (nI q)]) (n := 7) (Nat.le_of_ble_eq_true rfl)
  rw [lg_entry_eq]
  generalize (lg_sl ([.ref w, .long d0, .int (nI q)]) ++ List.replicate (7 - (lg_sl ([.ref w, .long d0, .int (nI q)])).length) Slot.unset).toArray = ls at hl ⊢
  have hl : lv_has ls 7 [(0, .ref w), (1, .long d0), (3, .int (nI q))] := hl
  refine lv_lload_n hx hb dX4_digestWithPerson_0 rfl (lv_at hl 1 rfl) ?_
  refine lv_lstore (lv' := [(4, .long d0), (0, .ref w), (1, .long d0), (3, .int (nI q))]) hx hb dX4_digestWithPerson_1 hl (by decide) rfl (fun ls hl => ?_)
  refine lv_iconst (v := 0) hx hb dX4_digestWithPerson_3 (by decide) ?_
  refine lv_istore (lv' := [(6, .int 0), (4, .long d0), (0, .ref w), (1, .long d0), (3, .int (nI q))]) hx hb dX4_digestWithPerson_4 hl (by decide) rfl (fun ls hl => ?_)
  exact lk1X4_digestWithPerson l D d L σ A w L2 A2 hdis hwB P F R hok d0 q hq σ2 hx hb hr hts hown hlocks hml hK hX hV 11 0 (by omega) _ _ hW hW2 hS ls (lv_sub hl [2, 4, 1, 0] rfl)
set_option maxHeartbeats 4000000 in
set_option maxRecDepth 100000 in
/-- digest: the loop at 154 -/
theorem l5X4_digest (l : Launch) (D : va_G) (d : hs_Dm) (L : hs_Lo) (σ : hs_St) (A : Nat → Prop) (w : Nat) (L2 : hs_Lo) (A2 : Nat → Prop) (hdis : ∀ q, A2 q → ¬ A q) (hwB : ¬ tw_A A A2 w) (P F R : Nat) (hok : hs_ok P F R σ) (r : Nat) (hr5 : r < R) (d0 : Int64) (σt : hs_St)  {p : Program} {e : Env} {s : State} {m : MethodId} {args : Array Value} {below : List Frame} {meth : Method} {c : Code} (hx : p.tables.exec = Jvm.exec) (hb : c.code = cX4_digest) (hr : meth.sig.returnType = (some .long)) (hts : ∀ w ∈ wsX4_digest, w.before args s = true) (hown : s.vm.findClass RX4 = some m.cls) (hlocks : meth.locks = false) (hml : c.maxLocals = 5) (hK : va_K D vwCl (hs_ty d) s) (hX : hx_E d.2.2.2.2 (tw_A A A2) s) (hV : va_at D vwCl (w, .inr (cWx, [.ref (L 0 0), .ref (L2 0 0)])) s.heap) {Q : State → Prop} (kk : ∀ (H : Heap) (locs : List Loc), hs_W D d L σ A H → hs_W D d L2 σt A2 H → va_S (tw_A A A2) s.heap H locs → ∀ ls : Array Slot, lv_has ls 5 [(0, .ref w), (1, .long (sp_gR σ F r d0 4)), (3, .int (nI r))] → W p l e ({ frames := 9, cells := 0, slots := 0, locals := 220 } : Room) s m args below meth c H locs 0 0 Q (F0 m 181 ls [])) : ∀ (k n : Nat), n + k = 4 → ∀ (H : Heap) (locs : List Loc), hs_W D d L σ A H → hs_W D d L2 σt A2 H → va_S (tw_A A A2) s.heap H locs → ∀ ls : Array Slot, lv_has ls 5 [(0, .ref w), (1, .long (sp_gR σ F r d0 n)), (3, .int (nI r)), (4, .int (nI n))] → W p l e (({ frames := 9, cells := 0, slots := 0, locals := 220 }) : Room) s m args below meth c H locs 0 0 Q (F0 m 154 ls []) := by
  intro k
  induction k with
  | zero =>
    intro n hn H locs hW hW2 hS ls hl
    have hE := hX.1
    have hwA : ¬ A w := fun q => hwB (Or.inl q)
    have hAB : ∀ q, A q → tw_A A A2 q := fun q h => Or.inl h
    have hAB2 : ∀ q, A2 q → tw_A A A2 q := fun q h => Or.inr h
    have hdis2 : ∀ q, A q → ¬ A2 q := fun q h h2 => hdis q h2 h
    have h10 := hok.1
    have h8 := hok.2.1
    have h5 := hok.2.2.1
    have hnN : n = 4 := by omega
    refine lv_iload hx hb dX4_digest_154 (lv_at hl 3 rfl) ?_
    refine lv_iconst (v := 3) hx hb dX4_digest_156 (by decide) ?_
    refine lv_icmp_gt (tgt := 181) hx hb dX4_digest_157 (by decide) (fun c_157 => ?_) (fun c_157 => ?_)
    · exact kk _ _ hW hW2 hS ls (by first | exact lv_sub hl [0, 1, 2] rfl | (rw [hnN] at hl; exact lv_sub hl [0, 1, 2] rfl))
    · exact absurd (by rw [hnN]; decide +kernel) c_157
  | succ k ih =>
    intro n hn H locs hW hW2 hS ls hl
    have hE := hX.1
    have hwA : ¬ A w := fun q => hwB (Or.inl q)
    have hAB : ∀ q, A q → tw_A A A2 q := fun q h => Or.inl h
    have hAB2 : ∀ q, A2 q → tw_A A A2 q := fun q h => Or.inr h
    have hdis2 : ∀ q, A q → ¬ A2 q := fun q h h2 => hdis q h2 h
    have h10 := hok.1
    have h8 := hok.2.1
    have h5 := hok.2.2.1
    have hnN : n < 4 := by omega
    refine lv_iload hx hb dX4_digest_154 (lv_at hl 3 rfl) ?_
    refine lv_iconst (v := 3) hx hb dX4_digest_156 (by decide) ?_
    refine lv_icmp_gt (tgt := 181) hx hb dX4_digest_157 (by decide) (fun c_157 => ?_) (fun c_157 => ?_)
    · exact absurd c_157 (by rw [show (3 : Int32) = nI 3 from by decide +kernel]; exact nI_nlt (by omega) (by omega))
    · refine lv_lload_n hx hb dX4_digest_160 rfl (lv_at hl 1 rfl) ?_
      refine lv_ldc2 (v := 31) hx hb hown (hts (.constantLong RX4 244 31) (by decide +kernel)) dX4_digest_161 ?_
      refine lv_lmul hx hb dX4_digest_164 ?_
      refine lv_aload_n hx hb dX4_digest_165 rfl (lv_at hl 0 rfl) ?_
      refine lv_iload_n hx hb dX4_digest_166 rfl (lv_at hl 2 rfl) ?_
      refine lv_iload hx hb dX4_digest_167 (lv_at hl 3 rfl) ?_
      refine tw_wxi (As := [.int (nI r), .int (nI n)]) ⟨hx, hb, hml, hown, hts⟩ (kX4_ofRoom l D d L σ A w L2 hwA P F R hok r hr5 n hnN) (cwV 2 hts gX4_digest_X4_ofRoom rfl rfl rfl (by decide +kernel) ⟨Nat.le_of_ble_eq_true rfl, Nat.le_of_ble_eq_true rfl⟩) hK hE hW hW2 hAB hdis hS hX hV hwB rfl hl.1 (Nat.le_of_ble_eq_true rfl) dX4_digest_169 ⟨Nat.zero_le _, Nat.zero_le _⟩ rfl (fun r_ τ_ H locs hp hW hW2 hS => ?_)
      obtain ⟨rfl, rfl⟩ := hp
      refine lv_i2l hx hb dX4_digest_172 rfl ?_
      refine lv_ladd hx hb dX4_digest_173 ?_
      refine lv_lstore_n (lv' := [(1, .long (((sp_gR σ F r d0 n) * 31) + ((sp_ofR σ F r n).toInt64))), (0, .ref w), (3, .int (nI r)), (4, .int (nI n))]) hx hb dX4_digest_174 rfl hl (by decide) rfl (fun ls hl => ?_)
      refine lv_iinc (v := nI (n + 1)) (lv' := [(4, .int (nI (n + 1))), (1, .long (((sp_gR σ F r d0 n) * 31) + ((sp_ofR σ F r n).toInt64))), (0, .ref w), (3, .int (nI r))]) hx hb dX4_digest_175 hl (k := 3) rfl (nI_succ _).symm (by decide) rfl (fun ls hl => ?_)
      refine lv_goto (tgt := 154) hx hb dX4_digest_178 (by decide) ?_
      exact ih (n + 1) (by omega) _ _ hW hW2 hS ls (lv_sub hl [2, 1, 3, 0] rfl)
set_option maxHeartbeats 4000000 in
set_option maxRecDepth 100000 in
/-- digest: the loop at 140 -/
theorem l4X4_digest (l : Launch) (D : va_G) (d : hs_Dm) (L : hs_Lo) (σ : hs_St) (A : Nat → Prop) (w : Nat) (L2 : hs_Lo) (A2 : Nat → Prop) (hdis : ∀ q, A2 q → ¬ A q) (hwB : ¬ tw_A A A2 w) (P F R : Nat) (hok : hs_ok P F R σ) (d0 : Int64) (σt : hs_St)  {p : Program} {e : Env} {s : State} {m : MethodId} {args : Array Value} {below : List Frame} {meth : Method} {c : Code} (hx : p.tables.exec = Jvm.exec) (hb : c.code = cX4_digest) (hr : meth.sig.returnType = (some .long)) (hts : ∀ w ∈ wsX4_digest, w.before args s = true) (hown : s.vm.findClass RX4 = some m.cls) (hlocks : meth.locks = false) (hml : c.maxLocals = 5) (hK : va_K D vwCl (hs_ty d) s) (hX : hx_E d.2.2.2.2 (tw_A A A2) s) (hV : va_at D vwCl (w, .inr (cWx, [.ref (L 0 0), .ref (L2 0 0)])) s.heap) : ∀ (k n : Nat), n + k = R → ∀ (H : Heap) (locs : List Loc), hs_W D d L σ A H → hs_W D d L2 σt A2 H → va_S (tw_A A A2) s.heap H locs → ∀ ls : Array Slot, lv_has ls 5 [(0, .ref w), (1, .long (sp_gRs σ F d0 n)), (3, .int (nI n))] → W p l e (({ frames := 9, cells := 0, slots := 0, locals := 220 }) : Room) s m args below meth c H locs 0 0 (MQ below (va_Ql (fun r τ => sp_gE σ P F R d0 = r ∧ σt = τ) (fun τ t => tw_B D d L σ A L2 τ A2 t) (tw_A A A2)) args s 0 0 (tw_A A A2)) (F0 m 140 ls []) := by
  intro k
  induction k with
  | zero =>
    intro n hn H locs hW hW2 hS ls hl
    have hE := hX.1
    have hwA : ¬ A w := fun q => hwB (Or.inl q)
    have hAB : ∀ q, A q → tw_A A A2 q := fun q h => Or.inl h
    have hAB2 : ∀ q, A2 q → tw_A A A2 q := fun q h => Or.inr h
    have hdis2 : ∀ q, A q → ¬ A2 q := fun q h h2 => hdis q h2 h
    have h10 := hok.1
    have h8 := hok.2.1
    have h5 := hok.2.2.1
    have hnN : n = R := by omega
    refine lv_iload_n hx hb dX4_digest_140 rfl (lv_at hl 2 rfl) ?_
    refine lv_aload_n hx hb dX4_digest_141 rfl (lv_at hl 0 rfl) ?_
    refine va_get (D := D) (ci := cWx) (C := RX4) (T := TX4) (N := 2) (ws := [(w, .inr (cWx, [.ref (L 0 0), .ref (L2 0 0)]))]) (v := .ref (L 0 0)) hx hb hts (by decide +kernel) hown hK (wx_one hV hS hwB) 0 rfl rfl 0 (by decide) (hts (.fieldLink RX4 10 "Waxrow" "house" "LWaxrow$House;") (by decide +kernel)) (fun _ h9 => h9) rfl dX4_digest_142 ?_
    refine va_get (D := D) (ci := cHo) (C := RX1) (T := TX1) (N := 11) (ws := [(L 0 0, hs_ct d L σ 0 0)]) (v := .int (σ 0 0 5)) hx hb hts (by decide +kernel) hown hK (hW.one hs_ix0) 0 rfl rfl 5 (by decide) (hts (.fieldLink RX4 150 "Waxrow$House" "roomCount" "I") (by decide +kernel)) (fun _ h9 => h9) rfl dX4_digest_145 ?_
    refine lv_icmp_ge (tgt := 187) hx hb dX4_digest_148 (by decide) (fun c_148 => ?_) (fun c_148 => ?_)
    · refine lv_lload_n hx hb dX4_digest_187 rfl (lv_at hl 1 rfl) ?_
      refine lv_ldc2 (v := 31) hx hb hown (hts (.constantLong RX4 244 31) (by decide +kernel)) dX4_digest_188 ?_
      refine lv_lmul hx hb dX4_digest_191 ?_
      refine lv_aload_n hx hb dX4_digest_192 rfl (lv_at hl 0 rfl) ?_
      refine tw_wxi (As := []) ⟨hx, hb, hml, hown, hts⟩ (kX4_bestNext l D d L σ A w L2 hwA P F R hok) (cwV 0 hts gX4_digest_X4_bestNext rfl rfl rfl (by decide +kernel) ⟨Nat.le_of_ble_eq_true rfl, Nat.le_of_ble_eq_true rfl⟩) hK hE hW hW2 hAB hdis hS hX hV hwB rfl hl.1 (Nat.le_of_ble_eq_true rfl) dX4_digest_193 ⟨Nat.zero_le _, Nat.zero_le _⟩ rfl (fun r_ τ_ H locs hp hW hW2 hS => ?_)
      obtain ⟨rfl, rfl⟩ := hp
      refine lv_i2l hx hb dX4_digest_196 rfl ?_
      refine lv_ladd hx hb dX4_digest_197 ?_
      exact W.lret (v := ((sp_gRs σ F d0 n) * 31) + (((sp_best σ F P).1).toInt64)) hx hb hr (fun t ht hW9 => ⟨⟨(((sp_gRs σ F d0 n) * 31) + (((sp_best σ F P).1).toInt64)), σt, rfl, ⟨by rw [hnN]; rfl, rfl⟩, by rw [ht]; exact hW, by rw [ht]; exact hW2, va_K.moved hW9.alike hK⟩, hS.F ht⟩) hS.2.2 dX4_digest_198
    · exact absurd (by rw [hok.hR, hnN]; exact nI_le (Nat.le_refl _) (by omega)) c_148
  | succ k ih =>
    intro n hn H locs hW hW2 hS ls hl
    have hE := hX.1
    have hwA : ¬ A w := fun q => hwB (Or.inl q)
    have hAB : ∀ q, A q → tw_A A A2 q := fun q h => Or.inl h
    have hAB2 : ∀ q, A2 q → tw_A A A2 q := fun q h => Or.inr h
    have hdis2 : ∀ q, A q → ¬ A2 q := fun q h h2 => hdis q h2 h
    have h10 := hok.1
    have h8 := hok.2.1
    have h5 := hok.2.2.1
    have hnN : n < R := by omega
    refine lv_iload_n hx hb dX4_digest_140 rfl (lv_at hl 2 rfl) ?_
    refine lv_aload_n hx hb dX4_digest_141 rfl (lv_at hl 0 rfl) ?_
    refine va_get (D := D) (ci := cWx) (C := RX4) (T := TX4) (N := 2) (ws := [(w, .inr (cWx, [.ref (L 0 0), .ref (L2 0 0)]))]) (v := .ref (L 0 0)) hx hb hts (by decide +kernel) hown hK (wx_one hV hS hwB) 0 rfl rfl 0 (by decide) (hts (.fieldLink RX4 10 "Waxrow" "house" "LWaxrow$House;") (by decide +kernel)) (fun _ h9 => h9) rfl dX4_digest_142 ?_
    refine va_get (D := D) (ci := cHo) (C := RX1) (T := TX1) (N := 11) (ws := [(L 0 0, hs_ct d L σ 0 0)]) (v := .int (σ 0 0 5)) hx hb hts (by decide +kernel) hown hK (hW.one hs_ix0) 0 rfl rfl 5 (by decide) (hts (.fieldLink RX4 150 "Waxrow$House" "roomCount" "I") (by decide +kernel)) (fun _ h9 => h9) rfl dX4_digest_145 ?_
    refine lv_icmp_ge (tgt := 187) hx hb dX4_digest_148 (by decide) (fun c_148 => ?_) (fun c_148 => ?_)
    · exact absurd (by rw [hok.hR] at c_148; exact c_148) (nI_ge hnN (by omega))
    · refine lv_iconst (v := 0) hx hb dX4_digest_151 (by decide) ?_
      refine lv_istore (lv' := [(4, .int 0), (0, .ref w), (1, .long (sp_gRs σ F d0 n)), (3, .int (nI n))]) hx hb dX4_digest_152 hl (by decide) rfl (fun ls hl => ?_)
      refine l5X4_digest l D d L σ A w L2 A2 hdis hwB P F R hok n hnN (sp_gRs σ F d0 n) σt hx hb hr hts hown hlocks hml hK hX hV (fun H locs hW hW2 hS ls hl => ?_) 4 0 (by omega) _ _ hW hW2 hS ls (lv_sub hl [1, 2, 3, 0] rfl)
      refine lv_iinc (v := nI (n + 1)) (lv' := [(3, .int (nI (n + 1))), (0, .ref w), (1, .long (sp_gR σ F n (sp_gRs σ F d0 n) 4))]) hx hb dX4_digest_181 hl (k := 2) rfl (nI_succ _).symm (by decide) rfl (fun ls hl => ?_)
      refine lv_goto (tgt := 140) hx hb dX4_digest_184 (by decide) ?_
      exact ih (n + 1) (by omega) _ _ hW hW2 hS ls (lv_sub hl [1, 2, 0] rfl)
set_option maxHeartbeats 4000000 in
set_option maxRecDepth 100000 in
/-- digest: the loop at 73 -/
theorem l3X4_digest (l : Launch) (D : va_G) (d : hs_Dm) (L : hs_Lo) (σ : hs_St) (A : Nat → Prop) (w : Nat) (L2 : hs_Lo) (A2 : Nat → Prop) (hdis : ∀ q, A2 q → ¬ A q) (hwB : ¬ tw_A A A2 w) (P F R : Nat) (hok : hs_ok P F R σ) (f : Nat) (hf : f < F) (d0 : Int64) (σt : hs_St)  {p : Program} {e : Env} {s : State} {m : MethodId} {args : Array Value} {below : List Frame} {meth : Method} {c : Code} (hx : p.tables.exec = Jvm.exec) (hb : c.code = cX4_digest) (hr : meth.sig.returnType = (some .long)) (hts : ∀ w ∈ wsX4_digest, w.before args s = true) (hown : s.vm.findClass RX4 = some m.cls) (hlocks : meth.locks = false) (hml : c.maxLocals = 5) (hK : va_K D vwCl (hs_ty d) s) (hX : hx_E d.2.2.2.2 (tw_A A A2) s) (hV : va_at D vwCl (w, .inr (cWx, [.ref (L 0 0), .ref (L2 0 0)])) s.heap) {Q : State → Prop} (kk : ∀ (H : Heap) (locs : List Loc), hs_W D d L σ A H → hs_W D d L2 σt A2 H → va_S (tw_A A A2) s.heap H locs → ∀ ls : Array Slot, lv_has ls 5 [(0, .ref w), (1, .long (sp_gF σ f d0 12)), (3, .int (nI f))] → W p l e ({ frames := 9, cells := 0, slots := 0, locals := 220 } : Room) s m args below meth c H locs 0 0 Q (F0 m 101 ls [])) : ∀ (k n : Nat), n + k = 12 → ∀ (H : Heap) (locs : List Loc), hs_W D d L σ A H → hs_W D d L2 σt A2 H → va_S (tw_A A A2) s.heap H locs → ∀ ls : Array Slot, lv_has ls 5 [(0, .ref w), (1, .long (sp_gF σ f d0 n)), (3, .int (nI f)), (4, .int (nI n))] → W p l e (({ frames := 9, cells := 0, slots := 0, locals := 220 }) : Room) s m args below meth c H locs 0 0 Q (F0 m 73 ls []) := by
  intro k
  induction k with
  | zero =>
    intro n hn H locs hW hW2 hS ls hl
    have hE := hX.1
    have hwA : ¬ A w := fun q => hwB (Or.inl q)
    have hAB : ∀ q, A q → tw_A A A2 q := fun q h => Or.inl h
    have hAB2 : ∀ q, A2 q → tw_A A A2 q := fun q h => Or.inr h
    have hdis2 : ∀ q, A q → ¬ A2 q := fun q h h2 => hdis q h2 h
    have h10 := hok.1
    have h8 := hok.2.1
    have h5 := hok.2.2.1
    have hnN : n = 12 := by omega
    refine lv_iload hx hb dX4_digest_73 (lv_at hl 3 rfl) ?_
    refine lv_bipush (v := 11) hx hb dX4_digest_75 (by decide) ?_
    refine lv_icmp_gt (tgt := 101) hx hb dX4_digest_77 (by decide) (fun c_77 => ?_) (fun c_77 => ?_)
    · exact kk _ _ hW hW2 hS ls (by first | exact lv_sub hl [0, 1, 2] rfl | (rw [hnN] at hl; exact lv_sub hl [0, 1, 2] rfl))
    · exact absurd (by rw [hnN]; decide +kernel) c_77
  | succ k ih =>
    intro n hn H locs hW hW2 hS ls hl
    have hE := hX.1
    have hwA : ¬ A w := fun q => hwB (Or.inl q)
    have hAB : ∀ q, A q → tw_A A A2 q := fun q h => Or.inl h
    have hAB2 : ∀ q, A2 q → tw_A A A2 q := fun q h => Or.inr h
    have hdis2 : ∀ q, A q → ¬ A2 q := fun q h h2 => hdis q h2 h
    have h10 := hok.1
    have h8 := hok.2.1
    have h5 := hok.2.2.1
    have hnN : n < 12 := by omega
    refine lv_iload hx hb dX4_digest_73 (lv_at hl 3 rfl) ?_
    refine lv_bipush (v := 11) hx hb dX4_digest_75 (by decide) ?_
    refine lv_icmp_gt (tgt := 101) hx hb dX4_digest_77 (by decide) (fun c_77 => ?_) (fun c_77 => ?_)
    · exact absurd c_77 (by rw [show (11 : Int32) = nI 11 from by decide +kernel]; exact nI_nlt (by omega) (by omega))
    · refine lv_lload_n hx hb dX4_digest_80 rfl (lv_at hl 1 rfl) ?_
      refine lv_ldc2 (v := 31) hx hb hown (hts (.constantLong RX4 244 31) (by decide +kernel)) dX4_digest_81 ?_
      refine lv_lmul hx hb dX4_digest_84 ?_
      refine lv_aload_n hx hb dX4_digest_85 rfl (lv_at hl 0 rfl) ?_
      refine lv_iload_n hx hb dX4_digest_86 rfl (lv_at hl 2 rfl) ?_
      refine lv_iload hx hb dX4_digest_87 (lv_at hl 3 rfl) ?_
      refine tw_wxi (As := [.int (nI f), .int (nI n)]) ⟨hx, hb, hml, hown, hts⟩ (kX4_ofFigure l D d L σ A w L2 hwA P F R hok f hf n hnN) (cwV 2 hts gX4_digest_X4_ofFigure rfl rfl rfl (by decide +kernel) ⟨Nat.le_of_ble_eq_true rfl, Nat.le_of_ble_eq_true rfl⟩) hK hE hW hW2 hAB hdis hS hX hV hwB rfl hl.1 (Nat.le_of_ble_eq_true rfl) dX4_digest_89 ⟨Nat.zero_le _, Nat.zero_le _⟩ rfl (fun r_ τ_ H locs hp hW hW2 hS => ?_)
      obtain ⟨rfl, rfl⟩ := hp
      refine lv_i2l hx hb dX4_digest_92 rfl ?_
      refine lv_ladd hx hb dX4_digest_93 ?_
      refine lv_lstore_n (lv' := [(1, .long (((sp_gF σ f d0 n) * 31) + ((sp_ofF σ f n).toInt64))), (0, .ref w), (3, .int (nI f)), (4, .int (nI n))]) hx hb dX4_digest_94 rfl hl (by decide) rfl (fun ls hl => ?_)
      refine lv_iinc (v := nI (n + 1)) (lv' := [(4, .int (nI (n + 1))), (1, .long (((sp_gF σ f d0 n) * 31) + ((sp_ofF σ f n).toInt64))), (0, .ref w), (3, .int (nI f))]) hx hb dX4_digest_95 hl (k := 3) rfl (nI_succ _).symm (by decide) rfl (fun ls hl => ?_)
      refine lv_goto (tgt := 73) hx hb dX4_digest_98 (by decide) ?_
      exact ih (n + 1) (by omega) _ _ hW hW2 hS ls (lv_sub hl [2, 1, 3, 0] rfl)
set_option maxHeartbeats 4000000 in
set_option maxRecDepth 100000 in
/-- digest: the loop at 59 -/
theorem l2X4_digest (l : Launch) (D : va_G) (d : hs_Dm) (L : hs_Lo) (σ : hs_St) (A : Nat → Prop) (w : Nat) (L2 : hs_Lo) (A2 : Nat → Prop) (hdis : ∀ q, A2 q → ¬ A q) (hwB : ¬ tw_A A A2 w) (P F R : Nat) (hok : hs_ok P F R σ) (σ2 : hs_St) (htr : tr_ok R σ2) (hliv : ∀ f, f < F → (σ 9 f 0).toNatClampNeg < P ∧ (σ 9 f 1).toNatClampNeg < P) (hcb : ∀ q, q < 10 → σ 4 q 5 = 0 ∨ σ 4 q 5 = 1) (d0 : Int64)  {p : Program} {e : Env} {s : State} {m : MethodId} {args : Array Value} {below : List Frame} {meth : Method} {c : Code} (hx : p.tables.exec = Jvm.exec) (hb : c.code = cX4_digest) (hr : meth.sig.returnType = (some .long)) (hts : ∀ w ∈ wsX4_digest, w.before args s = true) (hown : s.vm.findClass RX4 = some m.cls) (hlocks : meth.locks = false) (hml : c.maxLocals = 5) (hK : va_K D vwCl (hs_ty d) s) (hX : hx_E d.2.2.2.2 (tw_A A A2) s) (hV : va_at D vwCl (w, .inr (cWx, [.ref (L 0 0), .ref (L2 0 0)])) s.heap) : ∀ (k n : Nat), n + k = F → ∀ (H : Heap) (locs : List Loc), hs_W D d L σ A H → hs_W D d L2 ((sp_gFs σ σ2 P F R d0 n).2) A2 H → va_S (tw_A A A2) s.heap H locs → ∀ ls : Array Slot, lv_has ls 5 [(0, .ref w), (1, .long ((sp_gFs σ σ2 P F R d0 n).1)), (3, .int (nI n))] → W p l e (({ frames := 9, cells := 0, slots := 0, locals := 220 }) : Room) s m args below meth c H locs 0 0 (MQ below (va_Ql (fun r τ => sp_gE σ P F R (sp_gFs σ σ2 P F R d0 F).1 = r ∧ (sp_gFs σ σ2 P F R d0 F).2 = τ) (fun τ t => tw_B D d L σ A L2 τ A2 t) (tw_A A A2)) args s 0 0 (tw_A A A2)) (F0 m 59 ls []) := by
  intro k
  induction k with
  | zero =>
    intro n hn H locs hW hW2 hS ls hl
    have hE := hX.1
    have hwA : ¬ A w := fun q => hwB (Or.inl q)
    have hAB : ∀ q, A q → tw_A A A2 q := fun q h => Or.inl h
    have hAB2 : ∀ q, A2 q → tw_A A A2 q := fun q h => Or.inr h
    have hdis2 : ∀ q, A q → ¬ A2 q := fun q h h2 => hdis q h2 h
    have h10 := hok.1
    have h8 := hok.2.1
    have h5 := hok.2.2.1
    have hnN : n = F := by omega
    refine lv_iload_n hx hb dX4_digest_59 rfl (lv_at hl 2 rfl) ?_
    refine lv_aload_n hx hb dX4_digest_60 rfl (lv_at hl 0 rfl) ?_
    refine va_get (D := D) (ci := cWx) (C := RX4) (T := TX4) (N := 2) (ws := [(w, .inr (cWx, [.ref (L 0 0), .ref (L2 0 0)]))]) (v := .ref (L 0 0)) hx hb hts (by decide +kernel) hown hK (wx_one hV hS hwB) 0 rfl rfl 0 (by decide) (hts (.fieldLink RX4 10 "Waxrow" "house" "LWaxrow$House;") (by decide +kernel)) (fun _ h9 => h9) rfl dX4_digest_61 ?_
    refine va_get (D := D) (ci := cHo) (C := RX1) (T := TX1) (N := 11) (ws := [(L 0 0, hs_ct d L σ 0 0)]) (v := .int (σ 0 0 4)) hx hb hts (by decide +kernel) hown hK (hW.one hs_ix0) 0 rfl rfl 4 (by decide) (hts (.fieldLink RX4 88 "Waxrow$House" "figureCount" "I") (by decide +kernel)) (fun _ h9 => h9) rfl dX4_digest_64 ?_
    refine lv_icmp_ge (tgt := 138) hx hb dX4_digest_67 (by decide) (fun c_67 => ?_) (fun c_67 => ?_)
    · refine lv_iconst (v := 0) hx hb dX4_digest_138 (by decide) ?_
      refine lv_istore_n (lv' := [(3, .int 0), (0, .ref w), (1, .long ((sp_gFs σ σ2 P F R d0 n).1))]) hx hb dX4_digest_139 rfl hl (by decide) rfl (fun ls hl => ?_)
      rw [hnN] at hl hW2
      exact l4X4_digest l D d L σ A w L2 A2 hdis hwB P F R hok (sp_gFs σ σ2 P F R d0 F).1 (sp_gFs σ σ2 P F R d0 F).2 hx hb hr hts hown hlocks hml hK hX hV R 0 (by omega) _ _ hW hW2 hS ls (lv_sub hl [1, 2, 0] rfl)
    · exact absurd (by rw [hok.hF, hnN]; exact nI_le (Nat.le_refl _) (by omega)) c_67
  | succ k ih =>
    intro n hn H locs hW hW2 hS ls hl
    have hE := hX.1
    have hwA : ¬ A w := fun q => hwB (Or.inl q)
    have hAB : ∀ q, A q → tw_A A A2 q := fun q h => Or.inl h
    have hAB2 : ∀ q, A2 q → tw_A A A2 q := fun q h => Or.inr h
    have hdis2 : ∀ q, A q → ¬ A2 q := fun q h h2 => hdis q h2 h
    have h10 := hok.1
    have h8 := hok.2.1
    have h5 := hok.2.2.1
    have hnN : n < F := by omega
    obtain ⟨P3, F3, R3, hok3, hR3⟩ := sp_gFs_ok hok htr d0 n
    refine lv_iload_n hx hb dX4_digest_59 rfl (lv_at hl 2 rfl) ?_
    refine lv_aload_n hx hb dX4_digest_60 rfl (lv_at hl 0 rfl) ?_
    refine va_get (D := D) (ci := cWx) (C := RX4) (T := TX4) (N := 2) (ws := [(w, .inr (cWx, [.ref (L 0 0), .ref (L2 0 0)]))]) (v := .ref (L 0 0)) hx hb hts (by decide +kernel) hown hK (wx_one hV hS hwB) 0 rfl rfl 0 (by decide) (hts (.fieldLink RX4 10 "Waxrow" "house" "LWaxrow$House;") (by decide +kernel)) (fun _ h9 => h9) rfl dX4_digest_61 ?_
    refine va_get (D := D) (ci := cHo) (C := RX1) (T := TX1) (N := 11) (ws := [(L 0 0, hs_ct d L σ 0 0)]) (v := .int (σ 0 0 4)) hx hb hts (by decide +kernel) hown hK (hW.one hs_ix0) 0 rfl rfl 4 (by decide) (hts (.fieldLink RX4 88 "Waxrow$House" "figureCount" "I") (by decide +kernel)) (fun _ h9 => h9) rfl dX4_digest_64 ?_
    refine lv_icmp_ge (tgt := 138) hx hb dX4_digest_67 (by decide) (fun c_67 => ?_) (fun c_67 => ?_)
    · exact absurd (by rw [hok.hF] at c_67; exact c_67) (nI_ge hnN (by omega))
    · refine lv_iconst (v := 0) hx hb dX4_digest_70 (by decide) ?_
      refine lv_istore (lv' := [(4, .int 0), (0, .ref w), (1, .long ((sp_gFs σ σ2 P F R d0 n).1)), (3, .int (nI n))]) hx hb dX4_digest_71 hl (by decide) rfl (fun ls hl => ?_)
      refine l3X4_digest l D d L σ A w L2 A2 hdis hwB P F R hok n hnN (sp_gFs σ σ2 P F R d0 n).1 (sp_gFs σ σ2 P F R d0 n).2 hx hb hr hts hown hlocks hml hK hX hV (fun H locs hW hW2 hS ls hl => ?_) 12 0 (by omega) _ _ hW hW2 hS ls (lv_sub hl [1, 2, 3, 0] rfl)
      refine lv_lload_n hx hb dX4_digest_101 rfl (lv_at hl 1 rfl) ?_
      refine lv_ldc2 (v := 31) hx hb hown (hts (.constantLong RX4 244 31) (by decide +kernel)) dX4_digest_102 ?_
      refine lv_lmul hx hb dX4_digest_105 ?_
      refine lv_aload_n hx hb dX4_digest_106 rfl (lv_at hl 0 rfl) ?_
      refine lv_iload_n hx hb dX4_digest_107 rfl (lv_at hl 2 rfl) ?_
      refine tw_wxi (As := [.int (nI n)]) ⟨hx, hb, hml, hown, hts⟩ (kX4_readyIn l D d L σ A w L2 hwA P F R hok n hnN) (cwV 1 hts gX4_digest_X4_readyIn rfl rfl rfl (by decide +kernel) ⟨Nat.le_of_ble_eq_true rfl, Nat.le_of_ble_eq_true rfl⟩) hK hE hW hW2 hAB hdis hS hX hV hwB rfl hl.1 (Nat.le_of_ble_eq_true rfl) dX4_digest_108 ⟨Nat.zero_le _, Nat.zero_le _⟩ rfl (fun r_ τ_ H locs hp hW hW2 hS => ?_)
      obtain ⟨rfl, rfl⟩ := hp
      refine lv_i2l hx hb dX4_digest_111 rfl ?_
      refine lv_ladd hx hb dX4_digest_112 ?_
      refine lv_lstore_n (lv' := [(1, .long (((sp_gF σ n (sp_gFs σ σ2 P F R d0 n).1 12) * 31) + ((sp_days σ n).toInt64))), (0, .ref w), (3, .int (nI n))]) hx hb dX4_digest_113 rfl hl (by decide) rfl (fun ls hl => ?_)
      refine lv_lload_n hx hb dX4_digest_114 rfl (lv_at hl 0 rfl) ?_
      refine lv_ldc2 (v := 31) hx hb hown (hts (.constantLong RX4 244 31) (by decide +kernel)) dX4_digest_115 ?_
      refine lv_lmul hx hb dX4_digest_118 ?_
      refine lv_aload_n hx hb dX4_digest_119 rfl (lv_at hl 1 rfl) ?_
      refine lv_iload_n hx hb dX4_digest_120 rfl (lv_at hl 2 rfl) ?_
      refine lv_sipush (v := 900) hx hb dX4_digest_121 (by decide) ?_
      refine lv_bipush (v := 30) hx hb dX4_digest_124 (by decide) ?_
      refine tw_ti (As := [.int (nI n), .int 900, .int 30]) ⟨hx, hb, hml, hown, hts⟩ (kX4_meltsIn l D d L σ A w L2 A2 hdis hwB P F R hok ((sp_gFs σ σ2 P F R d0 n).2) n hnN 900 30 (by decide +kernel) (by decide +kernel) (by decide +kernel) (by decide +kernel) hliv hcb hok3 hR3) (cwV 3 hts gX4_digest_X4_meltsIn rfl rfl rfl (by decide +kernel) ⟨Nat.le_of_ble_eq_true rfl, Nat.le_of_ble_eq_true rfl⟩) hK hX hW hW2 hS hV hwB rfl hl.1 (Nat.le_of_ble_eq_true rfl) dX4_digest_126 ⟨Nat.zero_le _, Nat.zero_le _⟩ rfl (fun r_ τ_ H locs hp hW hW2 hS => ?_)
      obtain ⟨rfl, rfl⟩ : (sp_mIn σ ((sp_gFs σ σ2 P F R d0 n).2) P F R n 900 30).1 = r_ ∧ (sp_mIn σ ((sp_gFs σ σ2 P F R d0 n).2) P F R n 900 30).2 = τ_ := ⟨congrArg Prod.fst hp, congrArg Prod.snd hp⟩
      refine lv_i2l hx hb dX4_digest_129 rfl ?_
      refine lv_ladd hx hb dX4_digest_130 ?_
      refine lv_lstore_n (lv' := [(1, .long (((((sp_gF σ n (sp_gFs σ σ2 P F R d0 n).1 12) * 31) + ((sp_days σ n).toInt64)) * 31) + (((sp_mIn σ ((sp_gFs σ σ2 P F R d0 n).2) P F R n 900 30).1).toInt64))), (0, .ref w), (3, .int (nI n))]) hx hb dX4_digest_131 rfl hl (by decide) rfl (fun ls hl => ?_)
      refine lv_iinc (v := nI (n + 1)) (lv' := [(3, .int (nI (n + 1))), (1, .long (((((sp_gF σ n (sp_gFs σ σ2 P F R d0 n).1 12) * 31) + ((sp_days σ n).toInt64)) * 31) + (((sp_mIn σ ((sp_gFs σ σ2 P F R d0 n).2) P F R n 900 30).1).toInt64))), (0, .ref w)]) hx hb dX4_digest_132 hl (k := 2) rfl (nI_succ _).symm (by decide) rfl (fun ls hl => ?_)
      refine lv_goto (tgt := 59) hx hb dX4_digest_135 (by decide) ?_
      exact ih (n + 1) (by omega) _ _ hW hW2 hS ls (lv_sub hl [2, 1, 0] rfl)
set_option maxHeartbeats 4000000 in
set_option maxRecDepth 100000 in
/-- digest: the loop at 33 -/
theorem l1X4_digest (l : Launch) (D : va_G) (d : hs_Dm) (L : hs_Lo) (σ : hs_St) (A : Nat → Prop) (w : Nat) (L2 : hs_Lo) (A2 : Nat → Prop) (hdis : ∀ q, A2 q → ¬ A q) (hwB : ¬ tw_A A A2 w) (P F R : Nat) (hok : hs_ok P F R σ) (σ2 : hs_St) (htr : tr_ok R σ2) (hliv : ∀ f, f < F → (σ 9 f 0).toNatClampNeg < P ∧ (σ 9 f 1).toNatClampNeg < P) (hcb : ∀ q, q < 10 → σ 4 q 5 = 0 ∨ σ 4 q 5 = 1) (d0 : Int64)  {p : Program} {e : Env} {s : State} {m : MethodId} {args : Array Value} {below : List Frame} {meth : Method} {c : Code} (hx : p.tables.exec = Jvm.exec) (hb : c.code = cX4_digest) (hr : meth.sig.returnType = (some .long)) (hts : ∀ w ∈ wsX4_digest, w.before args s = true) (hown : s.vm.findClass RX4 = some m.cls) (hlocks : meth.locks = false) (hml : c.maxLocals = 5) (hK : va_K D vwCl (hs_ty d) s) (hX : hx_E d.2.2.2.2 (tw_A A A2) s) (hV : va_at D vwCl (w, .inr (cWx, [.ref (L 0 0), .ref (L2 0 0)])) s.heap) : ∀ (k n : Nat), n + k = P → ∀ (H : Heap) (locs : List Loc), hs_W D d L σ A H → hs_W D d L2 σ2 A2 H → va_S (tw_A A A2) s.heap H locs → ∀ ls : Array Slot, lv_has ls 5 [(0, .ref w), (1, .long (sp_gPs σ F d0 n)), (3, .int (nI n))] → W p l e (({ frames := 9, cells := 0, slots := 0, locals := 220 }) : Room) s m args below meth c H locs 0 0 (MQ below (va_Ql (fun r τ => sp_gE σ P F R (sp_gFs σ σ2 P F R (sp_gPs σ F d0 P) F).1 = r ∧ (sp_gFs σ σ2 P F R (sp_gPs σ F d0 P) F).2 = τ) (fun τ t => tw_B D d L σ A L2 τ A2 t) (tw_A A A2)) args s 0 0 (tw_A A A2)) (F0 m 33 ls []) := by
  intro k
  induction k with
  | zero =>
    intro n hn H locs hW hW2 hS ls hl
    have hE := hX.1
    have hwA : ¬ A w := fun q => hwB (Or.inl q)
    have hAB : ∀ q, A q → tw_A A A2 q := fun q h => Or.inl h
    have hAB2 : ∀ q, A2 q → tw_A A A2 q := fun q h => Or.inr h
    have hdis2 : ∀ q, A q → ¬ A2 q := fun q h h2 => hdis q h2 h
    have h10 := hok.1
    have h8 := hok.2.1
    have h5 := hok.2.2.1
    have hnN : n = P := by omega
    refine lv_iload_n hx hb dX4_digest_33 rfl (lv_at hl 2 rfl) ?_
    refine lv_aload_n hx hb dX4_digest_34 rfl (lv_at hl 0 rfl) ?_
    refine va_get (D := D) (ci := cWx) (C := RX4) (T := TX4) (N := 2) (ws := [(w, .inr (cWx, [.ref (L 0 0), .ref (L2 0 0)]))]) (v := .ref (L 0 0)) hx hb hts (by decide +kernel) hown hK (wx_one hV hS hwB) 0 rfl rfl 0 (by decide) (hts (.fieldLink RX4 10 "Waxrow" "house" "LWaxrow$House;") (by decide +kernel)) (fun _ h9 => h9) rfl dX4_digest_35 ?_
    refine va_get (D := D) (ci := cHo) (C := RX1) (T := TX1) (N := 11) (ws := [(L 0 0, hs_ct d L σ 0 0)]) (v := .int (σ 0 0 3)) hx hb hts (by decide +kernel) hown hK (hW.one hs_ix0) 0 rfl rfl 3 (by decide) (hts (.fieldLink RX4 23 "Waxrow$House" "personCount" "I") (by decide +kernel)) (fun _ h9 => h9) rfl dX4_digest_38 ?_
    refine lv_icmp_ge (tgt := 57) hx hb dX4_digest_41 (by decide) (fun c_41 => ?_) (fun c_41 => ?_)
    · refine lv_iconst (v := 0) hx hb dX4_digest_57 (by decide) ?_
      refine lv_istore_n (lv' := [(3, .int 0), (0, .ref w), (1, .long (sp_gPs σ F d0 n))]) hx hb dX4_digest_58 rfl hl (by decide) rfl (fun ls hl => ?_)
      rw [hnN] at hl
      exact l2X4_digest l D d L σ A w L2 A2 hdis hwB P F R hok σ2 htr hliv hcb (sp_gPs σ F d0 P) hx hb hr hts hown hlocks hml hK hX hV F 0 (by omega) _ _ hW hW2 hS ls (lv_sub hl [1, 2, 0] rfl)
    · exact absurd (by rw [hok.hP, hnN]; exact nI_le (Nat.le_refl _) (by omega)) c_41
  | succ k ih =>
    intro n hn H locs hW hW2 hS ls hl
    have hE := hX.1
    have hwA : ¬ A w := fun q => hwB (Or.inl q)
    have hAB : ∀ q, A q → tw_A A A2 q := fun q h => Or.inl h
    have hAB2 : ∀ q, A2 q → tw_A A A2 q := fun q h => Or.inr h
    have hdis2 : ∀ q, A q → ¬ A2 q := fun q h h2 => hdis q h2 h
    have h10 := hok.1
    have h8 := hok.2.1
    have h5 := hok.2.2.1
    have hnN : n < P := by omega
    refine lv_iload_n hx hb dX4_digest_33 rfl (lv_at hl 2 rfl) ?_
    refine lv_aload_n hx hb dX4_digest_34 rfl (lv_at hl 0 rfl) ?_
    refine va_get (D := D) (ci := cWx) (C := RX4) (T := TX4) (N := 2) (ws := [(w, .inr (cWx, [.ref (L 0 0), .ref (L2 0 0)]))]) (v := .ref (L 0 0)) hx hb hts (by decide +kernel) hown hK (wx_one hV hS hwB) 0 rfl rfl 0 (by decide) (hts (.fieldLink RX4 10 "Waxrow" "house" "LWaxrow$House;") (by decide +kernel)) (fun _ h9 => h9) rfl dX4_digest_35 ?_
    refine va_get (D := D) (ci := cHo) (C := RX1) (T := TX1) (N := 11) (ws := [(L 0 0, hs_ct d L σ 0 0)]) (v := .int (σ 0 0 3)) hx hb hts (by decide +kernel) hown hK (hW.one hs_ix0) 0 rfl rfl 3 (by decide) (hts (.fieldLink RX4 23 "Waxrow$House" "personCount" "I") (by decide +kernel)) (fun _ h9 => h9) rfl dX4_digest_38 ?_
    refine lv_icmp_ge (tgt := 57) hx hb dX4_digest_41 (by decide) (fun c_41 => ?_) (fun c_41 => ?_)
    · exact absurd (by rw [hok.hP] at c_41; exact c_41) (nI_ge hnN (by omega))
    · refine lv_aload_n hx hb dX4_digest_44 rfl (lv_at hl 0 rfl) ?_
      refine lv_lload_n hx hb dX4_digest_45 rfl (lv_at hl 1 rfl) ?_
      refine lv_iload_n hx hb dX4_digest_46 rfl (lv_at hl 2 rfl) ?_
      refine tw_tl (As := [.long (sp_gPs σ F d0 n), .int (nI n)]) ⟨hx, hb, hml, hown, hts⟩ (kX4_digestWithPerson l D d L σ A w L2 A2 hdis hwB P F R hok σ2 (sp_gPs σ F d0 n) n hnN) (cwV 2 hts gX4_digest_X4_digestWithPerson rfl rfl rfl (by decide +kernel) ⟨Nat.le_of_ble_eq_true rfl, Nat.le_of_ble_eq_true rfl⟩) hK hX hW hW2 hS hV hwB rfl hl.1 (Nat.le_of_ble_eq_true rfl) dX4_digest_47 ⟨Nat.zero_le _, Nat.zero_le _⟩ rfl (fun r_ τ_ H locs hp hW hW2 hS => ?_)
      obtain ⟨rfl, rfl⟩ := hp
      refine lv_lstore_n (lv' := [(1, .long (sp_gW σ F n (sp_gPs σ F d0 n))), (0, .ref w), (3, .int (nI n))]) hx hb dX4_digest_50 rfl hl (by decide) rfl (fun ls hl => ?_)
      refine lv_iinc (v := nI (n + 1)) (lv' := [(3, .int (nI (n + 1))), (1, .long (sp_gW σ F n (sp_gPs σ F d0 n))), (0, .ref w)]) hx hb dX4_digest_51 hl (k := 2) rfl (nI_succ _).symm (by decide) rfl (fun ls hl => ?_)
      refine lv_goto (tgt := 33) hx hb dX4_digest_54 (by decide) ?_
      exact ih (n + 1) (by omega) _ _ hW hW2 hS ls (lv_sub hl [2, 1, 0] rfl)
set_option maxHeartbeats 4000000 in
set_option maxRecDepth 100000 in
/-- digest: the loop at 6 -/
theorem l0X4_digest (l : Launch) (D : va_G) (d : hs_Dm) (L : hs_Lo) (σ : hs_St) (A : Nat → Prop) (w : Nat) (L2 : hs_Lo) (A2 : Nat → Prop) (hdis : ∀ q, A2 q → ¬ A q) (hwB : ¬ tw_A A A2 w) (P F R : Nat) (hok : hs_ok P F R σ) (σ2 : hs_St) (htr : tr_ok R σ2) (hliv : ∀ f, f < F → (σ 9 f 0).toNatClampNeg < P ∧ (σ 9 f 1).toNatClampNeg < P) (hcb : ∀ q, q < 10 → σ 4 q 5 = 0 ∨ σ 4 q 5 = 1)  {p : Program} {e : Env} {s : State} {m : MethodId} {args : Array Value} {below : List Frame} {meth : Method} {c : Code} (hx : p.tables.exec = Jvm.exec) (hb : c.code = cX4_digest) (hr : meth.sig.returnType = (some .long)) (hts : ∀ w ∈ wsX4_digest, w.before args s = true) (hown : s.vm.findClass RX4 = some m.cls) (hlocks : meth.locks = false) (hml : c.maxLocals = 5) (hK : va_K D vwCl (hs_ty d) s) (hX : hx_E d.2.2.2.2 (tw_A A A2) s) (hV : va_at D vwCl (w, .inr (cWx, [.ref (L 0 0), .ref (L2 0 0)])) s.heap) : ∀ (k n : Nat), n + k = 15 → ∀ (H : Heap) (locs : List Loc), hs_W D d L σ A H → hs_W D d L2 σ2 A2 H → va_S (tw_A A A2) s.heap H locs → ∀ ls : Array Slot, lv_has ls 5 [(0, .ref w), (1, .long (sp_gM σ P F n)), (3, .int (nI n))] → W p l e (({ frames := 9, cells := 0, slots := 0, locals := 220 }) : Room) s m args below meth c H locs 0 0 (MQ below (va_Ql (fun r τ => (sp_dig σ σ2 P F R).1 = r ∧ (sp_dig σ σ2 P F R).2 = τ) (fun τ t => tw_B D d L σ A L2 τ A2 t) (tw_A A A2)) args s 0 0 (tw_A A A2)) (F0 m 6 ls []) := by
  intro k
  induction k with
  | zero =>
    intro n hn H locs hW hW2 hS ls hl
    have hE := hX.1
    have hwA : ¬ A w := fun q => hwB (Or.inl q)
    have hAB : ∀ q, A q → tw_A A A2 q := fun q h => Or.inl h
    have hAB2 : ∀ q, A2 q → tw_A A A2 q := fun q h => Or.inr h
    have hdis2 : ∀ q, A q → ¬ A2 q := fun q h h2 => hdis q h2 h
    have h10 := hok.1
    have h8 := hok.2.1
    have h5 := hok.2.2.1
    have hnN : n = 15 := by omega
    refine lv_iload_n hx hb dX4_digest_6 rfl (lv_at hl 2 rfl) ?_
    refine lv_bipush (v := 14) hx hb dX4_digest_7 (by decide) ?_
    refine lv_icmp_gt (tgt := 31) hx hb dX4_digest_9 (by decide) (fun c_9 => ?_) (fun c_9 => ?_)
    · refine lv_iconst (v := 0) hx hb dX4_digest_31 (by decide) ?_
      refine lv_istore_n (lv' := [(3, .int 0), (0, .ref w), (1, .long (sp_gM σ P F n))]) hx hb dX4_digest_32 rfl hl (by decide) rfl (fun ls hl => ?_)
      rw [hnN] at hl
      exact l1X4_digest l D d L σ A w L2 A2 hdis hwB P F R hok σ2 htr hliv hcb (sp_gM σ P F 15) hx hb hr hts hown hlocks hml hK hX hV P 0 (by omega) _ _ hW hW2 hS ls (lv_sub hl [1, 2, 0] rfl)
    · exact absurd (by rw [hnN]; decide +kernel) c_9
  | succ k ih =>
    intro n hn H locs hW hW2 hS ls hl
    have hE := hX.1
    have hwA : ¬ A w := fun q => hwB (Or.inl q)
    have hAB : ∀ q, A q → tw_A A A2 q := fun q h => Or.inl h
    have hAB2 : ∀ q, A2 q → tw_A A A2 q := fun q h => Or.inr h
    have hdis2 : ∀ q, A q → ¬ A2 q := fun q h h2 => hdis q h2 h
    have h10 := hok.1
    have h8 := hok.2.1
    have h5 := hok.2.2.1
    have hnN : n < 15 := by omega
    refine lv_iload_n hx hb dX4_digest_6 rfl (lv_at hl 2 rfl) ?_
    refine lv_bipush (v := 14) hx hb dX4_digest_7 (by decide) ?_
    refine lv_icmp_gt (tgt := 31) hx hb dX4_digest_9 (by decide) (fun c_9 => ?_) (fun c_9 => ?_)
    · exact absurd c_9 (by rw [show (14 : Int32) = nI 14 from by decide +kernel]; exact nI_nlt (by omega) (by omega))
    · refine lv_lload_n hx hb dX4_digest_12 rfl (lv_at hl 1 rfl) ?_
      refine lv_ldc2 (v := 31) hx hb hown (hts (.constantLong RX4 244 31) (by decide +kernel)) dX4_digest_13 ?_
      refine lv_lmul hx hb dX4_digest_16 ?_
      refine lv_aload_n hx hb dX4_digest_17 rfl (lv_at hl 0 rfl) ?_
      refine lv_iload_n hx hb dX4_digest_18 rfl (lv_at hl 2 rfl) ?_
      refine tw_wxi (As := [.int (nI n)]) ⟨hx, hb, hml, hown, hts⟩ (kX4_many l D d L σ A w L2 hwA P F R hok n hnN) (cwV 1 hts gX4_digest_X4_many rfl rfl rfl (by decide +kernel) ⟨Nat.le_of_ble_eq_true rfl, Nat.le_of_ble_eq_true rfl⟩) hK hE hW hW2 hAB hdis hS hX hV hwB rfl hl.1 (Nat.le_of_ble_eq_true rfl) dX4_digest_19 ⟨Nat.zero_le _, Nat.zero_le _⟩ rfl (fun r_ τ_ H locs hp hW hW2 hS => ?_)
      obtain ⟨rfl, rfl⟩ := hp
      refine lv_i2l hx hb dX4_digest_22 rfl ?_
      refine lv_ladd hx hb dX4_digest_23 ?_
      refine lv_lstore_n (lv' := [(1, .long (((sp_gM σ P F n) * 31) + ((sp_many σ P F n).toInt64))), (0, .ref w), (3, .int (nI n))]) hx hb dX4_digest_24 rfl hl (by decide) rfl (fun ls hl => ?_)
      refine lv_iinc (v := nI (n + 1)) (lv' := [(3, .int (nI (n + 1))), (1, .long (((sp_gM σ P F n) * 31) + ((sp_many σ P F n).toInt64))), (0, .ref w)]) hx hb dX4_digest_25 hl (k := 2) rfl (nI_succ _).symm (by decide) rfl (fun ls hl => ?_)
      refine lv_goto (tgt := 6) hx hb dX4_digest_28 (by decide) ?_
      exact ih (n + 1) (by omega) _ _ hW hW2 hS ls (lv_sub hl [2, 1, 0] rfl)
set_option maxHeartbeats 4000000 in
set_option maxRecDepth 100000 in
/-- digest -/
theorem kX4_digest (l : Launch) (D : va_G) (d : hs_Dm) (L : hs_Lo) (σ : hs_St) (A : Nat → Prop) (w : Nat) (L2 : hs_Lo) (A2 : Nat → Prop) (hdis : ∀ q, A2 q → ¬ A q) (hwB : ¬ tw_A A A2 w) (P F R : Nat) (hok : hs_ok P F R σ) (σ2 : hs_St) (htr : tr_ok R σ2) (hliv : ∀ f, f < F → (σ 9 f 0).toNatClampNeg < P ∧ (σ 9 f 1).toNatClampNeg < P) (hcb : ∀ q, q < 10 → σ 4 q 5 = 0 ∨ σ 4 q 5 = 1)  : tw_Ml l yX4_digest wsX4_digest ({ frames := 9, cells := 0, slots := 0, locals := 220 }) D d w L σ A L2 σ2 A2 [.ref w] (fun r τ => (sp_dig σ σ2 P F R).1 = r ∧ (sp_dig σ σ2 P F R).2 = τ) := by
  refine Met.ofW (cc := cX4_digest) (maxL := 5) (ret := (some .long)) (by decide) rfl ?_
  intro p e s m args below meth c s₁ B hml hv
  obtain ⟨rfl, ⟨hW, hW2, hK⟩, hX, hV⟩ := hv
  have hx := B.exec
  have hb := B.bytes
  have hr := B.returns
  have hts := atoms_spec (ws := wsX4_digest) B.pre
  have hown : s.vm.findClass RX4 = some m.cls := findClass_of_methodNamed B.named
  have hlocks := B.notSynchronized
  have hS : va_S (tw_A A A2) s.heap s.heap [] := va_S.rf
  have hE := hX.1
  have hwA : ¬ A w := fun q => hwB (Or.inl q)
  have hAB : ∀ q, A q → tw_A A A2 q := fun q h => Or.inl h
  have hAB2 : ∀ q, A2 q → tw_A A A2 q := fun q h => Or.inr h
  have hdis2 : ∀ q, A q → ¬ A2 q := fun q h h2 => hdis q h2 h
  have h10 := hok.1
  have h8 := hok.2.1
  have h5 := hok.2.2.1
  have hl := lv_entry ([.ref w]) (n := 5) (Nat.le_of_ble_eq_true rfl)
  rw [lg_entry_eq]
  generalize (lg_sl ([.ref w]) ++ List.replicate (5 - (lg_sl ([.ref w])).length) Slot.unset).toArray = ls at hl ⊢
  have hl : lv_has ls 5 [(0, .ref w)] := hl
  refine lv_ldc2 (v := 58234) hx hb hown (hts (.constantLong RX4 242 58234) (by decide +kernel)) dX4_digest_0 ?_
  refine lv_lstore_n (lv' := [(1, .long 58234), (0, .ref w)]) hx hb dX4_digest_3 rfl hl (by decide) rfl (fun ls hl => ?_)
  refine lv_iconst (v := 0) hx hb dX4_digest_4 (by decide) ?_
  refine lv_istore_n (lv' := [(3, .int 0), (1, .long 58234), (0, .ref w)]) hx hb dX4_digest_5 rfl hl (by decide) rfl (fun ls hl => ?_)
  exact l0X4_digest l D d L σ A w L2 A2 hdis hwB P F R hok σ2 htr hliv hcb hx hb hr hts hown hlocks hml hK hX hV 15 0 (by omega) _ _ hW hW2 hS ls (lv_sub hl [2, 1, 0] rfl)
