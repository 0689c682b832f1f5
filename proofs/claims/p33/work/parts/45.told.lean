/-! TOLD'S METHODS: made -/
def tf_d (xs : Nat → Int32) (N : Nat) (σ : hs_St) (k : Nat) : Nat → hs_St
  | 0 => σ
  | u + 1 => (sp_pass (hs_sg (sp_newF (tf_d xs N σ k u) u (tl_v xs N (k + 3 * u) 4).toNatClampNeg) 9 u 4 (nI 9)) 4 (u + 1) (tl_v xs N (k + 3 * u + 1) 300) (tl_v xs N (k + 3 * u + 1 + 1) 20) 4).2
theorem md_h0 {σ : hs_St} : ∀ n, (∀ f, f < n → σ 9 f 4 = 0) → sp_hands σ n = 0
  | 0, _ => rfl
  | n + 1, h => by
    show sp_hands σ n + σ 9 n 4 = 0
    rw [md_h0 n (fun f hf => h f (by omega)), h n (by omega)]
    decide
theorem md_F {σ : hs_St} {F q a i j : Nat} (h1 : ¬ (a = 9 ∧ i = F ∧ j < 2)) (h2 : ¬ (a = 0 ∧ i = 0 ∧ j = 4)) : sp_newF σ F q a i j = σ a i j := by
  unfold sp_newF
  rw [pc_sg, if_neg (by omega), pc_sg, if_neg (by omega), pc_sg, if_neg (by omega)]
theorem md_new {P F R : Nat} {n : Nat → Nat} {c σ : hs_St} {k dy : Nat} (hG : tg P F R n c σ k dy) (hdn : ∀ f, f < F → σ 9 f 2 = nI 6 ∧ σ 9 f 4 = 0) (q : Nat) : ¬ (sp_newF σ F q) 9 F 2 = nI 6 ∧ ¬ 12 < sp_hands (sp_newF σ F q) (F + 1) - (sp_newF σ F q) 9 F 4 + nI 9 := by
  have hd : ∀ j, σ 9 F j = rc_s 9 F j := fun j => hG.2.1 9 F j (by unfold pd_live; omega)
  have e2 : sp_newF σ F q 9 F 2 = 0 := by rw [md_F (by omega) (by omega), hd]; rfl
  have e4 : sp_newF σ F q 9 F 4 = 0 := by rw [md_F (by omega) (by omega), hd]; rfl
  refine ⟨by rw [e2]; decide, ?_⟩
  rw [md_h0 (F + 1) (fun f hf => ?_), e4]
  · decide
  · by_cases e : f = F
    · rw [e]; exact e4
    · rw [md_F (by omega) (by omega)]
      exact (hdn f (by omega)).2
theorem md_done {P F R : Nat} {n : Nat → Nat} {c σ : hs_St} {k dy : Nat} (hG : tg P F R n c σ k dy) (hdn : ∀ f, f < F → σ 9 f 2 = nI 6 ∧ σ 9 f 4 = 0) (q : Nat) (x z : Int32) : ∀ f, f < F + 1 → (sp_pass (hs_sg (sp_newF σ F q) 9 F 4 (nI 9)) P (F + 1) x z 4).2 9 f 2 = nI 6 ∧ (sp_pass (hs_sg (sp_newF σ F q) 9 F 4 (nI 9)) P (F + 1) x z 4).2 9 f 4 = 0 := by
  intro f hf
  have hd : ∀ j, σ 9 F j = rc_s 9 F j := fun j => hG.2.1 9 F j (by unfold pd_live; omega)
  by_cases e : f = F
  · subst e
    have r2 : hs_sg (sp_newF σ f q) 9 f 4 (nI 9) 9 f 2 = nI 0 := by rw [pc_sg, if_neg (by omega), md_F (by omega) (by omega), hd]; rfl
    have r3 : hs_sg (sp_newF σ f q) 9 f 4 (nI 9) 9 f 3 = nI 0 := by rw [pc_sg, if_neg (by omega), md_F (by omega) (by omega), hd]; rfl
    have r7 : hs_sg (sp_newF σ f q) 9 f 4 (nI 9) 9 f 7 = 5 := by rw [pc_sg, if_neg (by omega), md_F (by omega) (by omega), hd]; rfl
    have r4 : hs_sg (sp_newF σ f q) 9 f 4 (nI 9) 9 f 4 = nI 9 := by rw [pc_sg, if_pos ⟨rfl, rfl, rfl⟩]
    rcases rd_pass (P := P) (F := f + 1) (g := f) (j := 0) (w := 0) (h := 9) (by omega) ⟨r2, r3⟩ (by decide) (by decide) r7 r4 (by decide) x z 4 with ⟨a, -⟩ | ⟨-, a, b⟩
    · exact absurd a (by decide)
    · exact ⟨a, b⟩
  · obtain ⟨a, b⟩ := hdn f (by omega)
    have r2 : hs_sg (sp_newF σ F q) 9 F 4 (nI 9) 9 f 2 = nI 6 := by rw [pc_sg, if_neg (by omega), md_F (by omega) (by omega)]; exact a
    have r4 : hs_sg (sp_newF σ F q) 9 F 4 (nI 9) 9 f 4 = 0 := by rw [pc_sg, if_neg (by omega), md_F (by omega) (by omega)]; exact b
    exact ⟨q2_pass r2 x z 4, q4_pass r2 r4 x z 4⟩
set_option maxHeartbeats 4000000 in
set_option maxRecDepth 100000 in
/-- Told: made: the loop at 2 -/
theorem lkX5_made (l : Launch) (D : va_G) (d : hs_Dm) (a0 w b : Nat) (cB : ClassId) (Lh L2 : hs_Lo) (Ah A : Nat → Prop) (N : Nat) (xs : Nat → Int32) (L : hs_Lo) (n : Nat → Nat) (c σ : hs_St)  (hN31 : N < 2 ^ 31) {p : Program} {e : Env} {s : State} {m : MethodId} {args : Array Value} {below : List Frame} {meth : Method} {c0 : Code} (k : Nat) (hk20 : k < 2 ^ 18) (hx : p.tables.exec = Jvm.exec) (hb : c0.code = cX5_made) (hr : meth.sig.returnType = (some .boolean)) (hts : ∀ w ∈ wsX5_made, w.before args s = true) (hown : s.vm.findClass RX5 = some m.cls) (hlocks : meth.locks = false) (hml : c0.maxLocals = 3) (hKK : tl_K D d w b cB Lh L2 A N xs s s.heap) (hH : tl_H w b Ah A s.heap.size) : ∀ (kk u : Nat), u + kk = 4 → ∀ (Lv : hs_Lo) (nv : Nat → Nat) (cv σv : hs_St) (hG : tg 4 u 3 nv cv σv (k + 3 * u) (4 * u)) (hσ : σv = tf_d xs N σ k u) (hdn : ∀ f, f < u → σv 9 f 2 = nI 6 ∧ σv 9 f 4 = 0) (H : Heap) (locs : List Loc), tl_B D d a0 w b cB Lh Ah A Lv nv cv σv H → va_S A s.heap H locs → ∀ ls : Array Slot, lv_has ls 3 [(2, .int (nI u)), (1, .int 4), (0, .ref a0)] → W p l e ({ frames := 7, cells := 24, slots := 200, locals := 180 } : Room) s m args below meth c0 H locs (6 * u) (50 * u) (MQ below (va_Qi (fun r X => r = 1 ∧ X.2.2.2 = tf_d xs N σ k 4 ∧ tg 4 4 3 X.2.1 X.2.2.1 X.2.2.2 (k + 12) 16 ∧ ∀ f, f < 4 → X.2.2.2 9 f 2 = nI 6 ∧ X.2.2.2 9 f 4 = 0) (fun X t => tl_Bx D d a0 w b cB Lh Ah A X t.heap) A) args s 24 200 A) (F0 m 2 ls []) := by
  intro kk
  induction kk with
  | zero =>
    intro u hu Lv nv cv σv hG hσ hdn H locs hB hS ls hl
    have huN : u = 4 := by omega
    refine lv_iload_n hx hb dX5_made_2 rfl (lv_at hl 0 rfl) ?_
    refine lv_iload_n hx hb dX5_made_3 rfl (lv_at hl 1 rfl) ?_
    refine lv_icmp_ge (tgt := 68) hx hb dX5_made_4 (by decide) (fun c_4 => ?_) (fun c_4 => ?_)
    · refine lv_iconst (v := 1) hx hb dX5_made_68 (by decide) ?_
      refine W.widen (k := 24) (n := 200) (by omega) (by omega) ?_
      subst huN
      exact W.zret (v := 1) (ty := .boolean) hx hb hr rfl (fun U9 ht hW9 => ⟨⟨1, (Lv, nv, cv, σv), rfl, ⟨rfl, hσ, hG, hdn⟩, by show tl_Bx D d a0 w b cB Lh Ah A _ U9.heap; rw [ht]; exact hB⟩, hS.F ht⟩) hS.2.2 dX5_made_69
    · exact absurd (by rw [huN]; exact nI_le (a := 4) (b := 4) (Nat.le_refl _) (by decide)) c_4
  | succ kk ih =>
    intro u hu Lv nv cv σv hG hσ hdn H locs hB hS ls hl
    have huN : u < 4 := by omega
    refine lv_iload_n hx hb dX5_made_2 rfl (lv_at hl 0 rfl) ?_
    refine lv_iload_n hx hb dX5_made_3 rfl (lv_at hl 1 rfl) ?_
    refine lv_icmp_ge (tgt := 68) hx hb dX5_made_4 (by decide) (fun c_4 => ?_) (fun c_4 => ?_)
    · exact absurd c_4 (nI_ge (b := 4) huN (by decide))
    · refine lv_aload_n hx hb dX5_made_7 rfl (lv_at hl 2 rfl) ?_
      refine lv_aload_n hx hb dX5_made_8 rfl (lv_at hl 2 rfl) ?_
      refine lv_aload_n hx hb dX5_made_9 rfl (lv_at hl 2 rfl) ?_
      refine tl_get hx hb hts (by decide +kernel) hown hKK.1 hB 3 (by decide) (hts (.fieldLink RX5 18 "WaxrowLaw$Told" "fame" "[[I") (by decide +kernel)) rfl (v := .ref (Lv 1 0)) rfl dX5_made_10 ?_
      refine tl_len hx hb hKK.2.1 hB 1 (by decide) (by decide) dX5_made_13 ?_
      rw [show nv 1 = 4 from hG.2.2.1.1]
      refine tl_draw (k := (k + 3 * u)) ⟨hx, hb, hml, hown, hts⟩ (cwV 1 hts gX5_made_X5_draw rfl rfl rfl (by decide +kernel) ⟨Nat.le_of_ble_eq_true rfl, Nat.le_of_ble_eq_true rfl⟩) hG.2.2.2.1 (by omega) hN31 (nI_ne0 (by decide) (by decide)) hKK hH hB hS rfl hl.1 (Nat.le_of_ble_eq_true rfl) dX5_made_14 ⟨by show _ ≤ 24; omega, by show _ ≤ 200; omega⟩ rfl (fun H locs hB hz hqq hS => ?_)
      have hB : tl_B D d a0 w b cB Lh Ah A Lv nv (hs_sg cv 0 0 2 (nI ((k + 3 * u) + 1))) σv H := hB
      obtain ⟨q, hq, eq⟩ := tl_v_in xs N (k + 3 * u) (m := 4) (by omega) (by omega)
      rw [show tl_v xs N (k + 3 * u) (nI 4) = nI q from eq]
      refine tl_calli (As := [.int (nI q)]) ⟨hx, hb, hml, hown, hts⟩ (kX5_figure l D d a0 w b cB Lh L2 Ah A N xs Lv nv (hs_sg cv 0 0 2 (nI ((k + 3 * u) + 1))) σv H.size (hH.up hS.1) hN31 4 u 3 (k + 3 * u + 1) (4 * u) (tg_draw hG rfl (fun a b_ e_ h_ => by simp only [hs_sg]; repeat rw [if_neg (by omega)]) rfl) (by omega) (by omega) (by omega) (by omega) q hq) (cwV 1 hts gX5_made_X5_figure rfl rfl rfl (by decide +kernel) ⟨Nat.le_of_ble_eq_true rfl, Nat.le_of_ble_eq_true rfl⟩) hKK hH hB hS rfl hl.1 (Nat.le_of_ble_eq_true rfl) dX5_made_17 ⟨by show _ ≤ 24; omega, by show _ ≤ 200; omega⟩ rfl (fun r_ X_ H locs hp hB hz hS => ?_)
      obtain ⟨Lw, nw, cw, σw⟩ := X_
      obtain ⟨e1_, e2_, e3_⟩ := hp
      have e2_ : σw = _ := e2_
      subst e1_
      have hB : tl_B D d a0 w b cB Lh Ah A Lw nw cw σw H := hB
      refine lv_if_eq (tgt := 60) hx hb dX5_made_20 (by decide) (fun c_20 => ?_) (fun c_20 => ?_)
      · exact absurd c_20 (by decide +kernel)
      · refine lv_aload_n hx hb dX5_made_23 rfl (lv_at hl 2 rfl) ?_
        refine lv_aload_n hx hb dX5_made_24 rfl (lv_at hl 2 rfl) ?_
        refine tl_get hx hb hts (by decide +kernel) hown hKK.1 hB 8 (by decide) (hts (.fieldLink RX5 34 "WaxrowLaw$Told" "figures" "[[I") (by decide +kernel)) rfl (v := .ref (Lw 6 0)) rfl dX5_made_25 ?_
        refine tl_len hx hb hKK.2.1 hB 6 (by decide) (by decide) dX5_made_28 ?_
        rw [show nw 6 = u + 1 from e3_.2.2.1.2.2.2.2.2.1]
        refine lv_iconst (v := 1) hx hb dX5_made_29 (by decide) ?_
        refine lv_isub hx hb dX5_made_30 ?_
        rw [nI_pred]
        refine lv_bipush (v := 9) hx hb dX5_made_31 (by decide) ?_
        refine tl_calli (As := [.int (nI u), .int 9]) ⟨hx, hb, hml, hown, hts⟩ (kX5_work l D d a0 w b cB Lh L2 Ah A N xs Lw nw cw σw H.size (hH.up hS.1) hN31 4 (u + 1) 3 (k + 3 * u + 1) (4 * u) e3_ (by omega) (by omega) (by omega) (by omega) u 9 (by omega) (by decide) (by rw [e2_]; exact (md_new hG hdn q).1) (by rw [e2_]; exact (md_new hG hdn q).2)) (cwV 2 hts gX5_made_X5_work rfl rfl rfl (by decide +kernel) ⟨Nat.le_of_ble_eq_true rfl, Nat.le_of_ble_eq_true rfl⟩) hKK hH hB hS rfl hl.1 (Nat.le_of_ble_eq_true rfl) dX5_made_33 ⟨by show _ ≤ 24; omega, by show _ ≤ 200; omega⟩ rfl (fun r_ X_ H locs hp hB hz hS => ?_)
        obtain ⟨Ly, ny, cy, σy⟩ := X_
        obtain ⟨f1_, f2_, f3_⟩ := hp
        have f2_ : σy = _ := f2_
        subst f1_
        have hB : tl_B D d a0 w b cB Lh Ah A Ly ny cy σy H := hB
        refine lv_if_eq (tgt := 60) hx hb dX5_made_36 (by decide) (fun c_36 => ?_) (fun c_36 => ?_)
        · exact absurd c_36 (by decide +kernel)
        · refine lv_aload_n hx hb dX5_made_39 rfl (lv_at hl 2 rfl) ?_
          refine lv_iconst (v := 4) hx hb dX5_made_40 (by decide) ?_
          refine lv_aload_n hx hb dX5_made_41 rfl (lv_at hl 2 rfl) ?_
          refine lv_sipush (v := 300) hx hb dX5_made_42 (by decide) ?_
          refine tl_draw (k := (k + 3 * u + 1)) ⟨hx, hb, hml, hown, hts⟩ (cwV 1 hts gX5_made_X5_draw rfl rfl rfl (by decide +kernel) ⟨Nat.le_of_ble_eq_true rfl, Nat.le_of_ble_eq_true rfl⟩) f3_.2.2.2.1 (by omega) hN31 (by decide) hKK hH hB hS rfl hl.1 (Nat.le_of_ble_eq_true rfl) dX5_made_45 ⟨by show _ ≤ 24; omega, by show _ ≤ 200; omega⟩ rfl (fun H locs hB hz hqq hS => ?_)
          have hB : tl_B D d a0 w b cB Lh Ah A Ly ny (hs_sg cy 0 0 2 (nI ((k + 3 * u + 1) + 1))) σy H := hB
          refine lv_aload_n hx hb dX5_made_48 rfl (lv_at hl 2 rfl) ?_
          refine lv_bipush (v := 20) hx hb dX5_made_49 (by decide) ?_
          refine tl_draw (k := ((k + 3 * u + 1) + 1)) ⟨hx, hb, hml, hown, hts⟩ (cwV 1 hts gX5_made_X5_draw rfl rfl rfl (by decide +kernel) ⟨Nat.le_of_ble_eq_true rfl, Nat.le_of_ble_eq_true rfl⟩) rfl (by omega) hN31 (by decide) hKK hH hB hS rfl hl.1 (Nat.le_of_ble_eq_true rfl) dX5_made_51 ⟨by show _ ≤ 24; omega, by show _ ≤ 200; omega⟩ rfl (fun H locs hB hz hqq hS => ?_)
          have hB : tl_B D d a0 w b cB Lh Ah A Ly ny (hs_sg (hs_sg cy 0 0 2 (nI ((k + 3 * u + 1) + 1))) 0 0 2 (nI ((k + 3 * u + 1) + 1 + 1))) σy H := hB
          refine tl_calli (As := [.int 4, .int (tl_v xs N (k + 3 * u + 1) 300), .int (tl_v xs N ((k + 3 * u + 1) + 1) 20)]) ⟨hx, hb, hml, hown, hts⟩ (kX5_pass l D d a0 w b cB Lh L2 Ah A N xs Ly ny (hs_sg (hs_sg cy 0 0 2 (nI ((k + 3 * u + 1) + 1))) 0 0 2 (nI ((k + 3 * u + 1) + 1 + 1))) σy H.size (hH.up hS.1) hN31 4 (u + 1) 3 (k + 3 * u + 1 + 1 + 1) (4 * u) (tg_draw f3_ rfl (fun a b_ e_ h_ => by simp only [hs_sg]; repeat rw [if_neg (by omega)]) rfl) (by omega) (by omega) (by omega) (by omega) (by decide) 4 (by decide) (by decide) (by omega) _ _ (tl_vp xs N _ (m := 300) (by decide) (by decide)) (tl_vl xs N _ (m := 300) (a := 2000) (by decide) (by decide) (by decide)) (tl_vp xs N _ (m := 20) (by decide) (by decide)) (tl_vl xs N _ (m := 20) (a := 40) (by decide) (by decide) (by decide))) (cwV 3 hts gX5_made_X5_pass rfl rfl rfl (by decide +kernel) ⟨Nat.le_of_ble_eq_true rfl, Nat.le_of_ble_eq_true rfl⟩) hKK hH hB hS rfl hl.1 (Nat.le_of_ble_eq_true rfl) dX5_made_54 ⟨by show _ ≤ 24; omega, by show _ ≤ 200; omega⟩ rfl (fun r_ X_ H locs hp hB hz hS => ?_)
          obtain ⟨Lz, nz, cz, σz⟩ := X_
          obtain ⟨g1_, g2_, g3_⟩ := hp
          have g2_ : σz = _ := g2_
          subst g1_
          have hB : tl_B D d a0 w b cB Lh Ah A Lz nz cz σz H := hB
          refine lv_if_ne (tgt := 62) hx hb dX5_made_57 (by decide) (fun c_57 => ?_) (fun c_57 => ?_)
          · refine lv_iinc (v := nI (u + 1)) (lv' := [(2, .int (nI (u + 1))), (1, .int 4), (0, .ref a0)]) hx hb dX5_made_62 hl (k := 0) rfl (nI_succ _).symm (by decide) rfl (fun ls hl => ?_)
            refine lv_goto (tgt := 2) hx hb dX5_made_65 (by decide) ?_
            exact ih (u + 1) (by omega) Lz nz cz σz (by have h_ := g3_; rw [show k + 3 * u + 1 + 1 + 1 = k + 3 * (u + 1) by omega, show 4 * u + 4 = 4 * (u + 1) by omega] at h_; exact h_) (by rw [g2_, f2_, e2_, hσ]; show _ = (sp_pass (hs_sg (sp_newF (tf_d xs N σ k u) u (tl_v xs N (k + 3 * u) 4).toNatClampNeg) 9 u 4 (nI 9)) 4 (u + 1) _ _ 4).2; rw [show tl_v xs N (k + 3 * u) 4 = nI q from eq, nI_clamp (by omega)]) (by rw [g2_, f2_, e2_]; exact md_done hG hdn q _ _) H locs hB hS ls (lv_sub hl [0, 1, 2] rfl)
          · exact absurd c_57 (by decide +kernel)
set_option maxHeartbeats 4000000 in
set_option maxRecDepth 100000 in
/-- Told: made -/
theorem kX5_made (l : Launch) (D : va_G) (d : hs_Dm) (a0 w b : Nat) (cB : ClassId) (Lh L2 : hs_Lo) (Ah A : Nat → Prop) (N : Nat) (xs : Nat → Int32) (L : hs_Lo) (n : Nat → Nat) (c σ : hs_St) (sz : Nat) (hH : tl_H w b Ah A sz) (hN31 : N < 2 ^ 31) (k : Nat) (hk20 : k < 2 ^ 18) (G : tg 4 0 3 n c σ k 0) : tl_Mi l yX5_made wsX5_made ({ frames := 7, cells := 24, slots := 200, locals := 180 }) D d a0 w b cB Lh L2 Ah A N xs L n c σ sz [.ref a0, .int 4] (fun r X => r = 1 ∧ X.2.2.2 = tf_d xs N σ k 4 ∧ tg 4 4 3 X.2.1 X.2.2.1 X.2.2.2 (k + 12) 16 ∧ ∀ f, f < 4 → X.2.2.2 9 f 2 = nI 6 ∧ X.2.2.2 9 f 4 = 0) 24 200 := by
  refine Met.ofW (cc := cX5_made) (maxL := 3) (ret := (some .boolean)) (by decide) rfl ?_
  intro p e s m args below meth c0 s₁ B hml hv
  obtain ⟨rfl, hsz, hB, hKK⟩ := hv
  have hx := B.exec
  have hb := B.bytes
  have hr := B.returns
  have hts := atoms_spec (ws := wsX5_made) B.pre
  have hown : s.vm.findClass RX5 = some m.cls := findClass_of_methodNamed B.named
  have hlocks := B.notSynchronized
  have hS : va_S A s.heap s.heap [] := va_S.rf
  have hH : tl_H w b Ah A s.heap.size := by rw [hsz]; exact hH
  have hl := lv_entry ([.ref a0, .int 4]) (n := 3) (Nat.le_of_ble_eq_true rfl)
  rw [lg_entry_eq]
  generalize (lg_sl ([.ref a0, .int 4]) ++ List.replicate (3 - (lg_sl ([.ref a0, .int 4])).length) Slot.unset).toArray = ls at hl ⊢
  have hl : lv_has ls 3 [(0, .ref a0), (1, .int 4)] := hl
  refine lv_iconst (v := 0) hx hb dX5_made_0 (by decide) ?_
  refine lv_istore_n (lv' := [(2, .int 0), (0, .ref a0), (1, .int 4)]) hx hb dX5_made_1 rfl hl (by decide) rfl (fun ls hl => ?_)
  exact lkX5_made l D d a0 w b cB Lh L2 Ah A N xs L n c σ hN31 k hk20 hx hb hr hts hown hlocks hml hKK hH 4 0 (by omega) L n c σ G rfl (fun f hf => absurd hf (Nat.not_lt_zero _)) _ _ hB hS ls (lv_sub hl [0, 2, 1] rfl)
