/-! TOLD'S METHODS: found -/
/-- what founding makes of a house: the measures of a person, a person, persons, rooms -/
def tf_m (xs : Nat → Int32) (N : Nat) (σ : hs_St) (q k : Nat) : Nat → hs_St
  | 0 => σ
  | j + 1 => tl_ms (tf_m xs N σ q k j) q j (tl_v xs N (k + 3 * j) 100) (tl_v xs N (k + 3 * j + 1 + 1) (if tl_v xs N (k + 3 * j + 1) 3 = 0 then 21 else 6))
def tf_c (xs : Nat → Int32) (N k : Nat) : Int32 := if tl_v xs N k 5 ≤ 0 then 0 else 1
def tf_p1 (xs : Nat → Int32) (N : Nat) (σ : hs_St) (q k : Nat) : hs_St := tf_m xs N (hs_sg (sp_newP σ q (100 + tl_v xs N k 900) (tl_v xs N (k + 1) 1000) (tl_v xs N (k + 1 + 1) 1000)) 4 q 5 (tf_c xs N (k + 3))) q (k + 4) 6
def tf_p (xs : Nat → Int32) (N : Nat) (σ : hs_St) (k : Nat) : Nat → hs_St
  | 0 => σ
  | q + 1 => tf_p1 xs N (tf_p xs N σ k q) q (k + 22 * q)
def tf_r (xs : Nat → Int32) (N : Nat) (σ : hs_St) (k : Nat) : Nat → hs_St
  | 0 => σ
  | r + 1 => sp_newR (tf_r xs N σ k r) r (tl_v xs N (k + 2 * r) 10) (1 + tl_v xs N (k + 2 * r + 1) 4)
theorem tl_b100 (xs : Nat → Int32) (N k : Nat) : ¬ (100 + tl_v xs N k 900 < 0) ∧ 100 + tl_v xs N k 900 ≤ 999 := by
  obtain ⟨j, hj, e⟩ := tl_v_in xs N k (m := 900) (by decide) (by decide)
  rw [show tl_v xs N k 900 = nI j from e, show (100 : Int32) + nI j = nI (100 + j) from nI_add 100 j]
  exact ⟨nI_pos (by omega), nI_le (b := 999) (by omega) (by decide)⟩
theorem tl_b4 (xs : Nat → Int32) (N k : Nat) : ¬ (1 + tl_v xs N k 4 < 1) ∧ 1 + tl_v xs N k 4 ≤ 4 := by
  obtain ⟨j, hj, e⟩ := tl_v_in xs N k (m := 4) (by decide) (by decide)
  rw [show tl_v xs N k 4 = nI j from e, show (1 : Int32) + nI j = nI (1 + j) from nI_add 1 j]
  exact ⟨nI_nlt (b := 1) (by omega) (by omega), nI_le (b := 4) (by omega) (by decide)⟩
set_option maxHeartbeats 4000000 in
set_option maxRecDepth 100000 in
/-- Told: found: the loop at 105 -/
theorem lkX5_foundC (l : Launch) (D : va_G) (d : hs_Dm) (a0 w b : Nat) (cB : ClassId) (Lh L2 : hs_Lo) (Ah A : Nat → Prop) (N : Nat) (xs : Nat → Int32) (L : hs_Lo) (n : Nat → Nat) (c σ : hs_St)  (hN31 : N < 2 ^ 31) {p : Program} {e : Env} {s : State} {m : MethodId} {args : Array Value} {below : List Frame} {meth : Method} {c0 : Code} (k : Nat) (hk20 : k < 2 ^ 19) (hx : p.tables.exec = Jvm.exec) (hb : c0.code = cX5_found) (hr : meth.sig.returnType = (some .boolean)) (hts : ∀ w ∈ wsX5_found, w.before args s = true) (hown : s.vm.findClass RX5 = some m.cls) (hlocks : meth.locks = false) (hml : c0.maxLocals = 4) (hKK : tl_K D d w b cB Lh L2 A N xs s s.heap) (hH : tl_H w b Ah A s.heap.size) : ∀ (kk u : Nat), u + kk = 3 → ∀ (Lv : hs_Lo) (nv : Nat → Nat) (cv σv : hs_St) (hG : tg 4 0 u nv cv σv (k + 88 + 2 * u) 0) (hσ : σv = tf_r xs N (tf_p xs N σ k 4) (k + 88) u) (H : Heap) (locs : List Loc), tl_B D d a0 w b cB Lh Ah A Lv nv cv σv H → va_S A s.heap H locs → ∀ ls : Array Slot, lv_has ls 4 [(2, .int (nI u)), (0, .ref a0)] → W p l e ({ frames := 6, cells := 46, slots := 274, locals := 160 } : Room) s m args below meth c0 H locs (40 + 2 * u) (244 + 10 * u) (MQ below (va_Qi (fun r X => r = 1 ∧ X.2.2.2 = tf_r xs N (tf_p xs N σ k 4) (k + 88) 3 ∧ tg 4 0 3 X.2.1 X.2.2.1 X.2.2.2 (k + 94) 0) (fun X t => tl_Bx D d a0 w b cB Lh Ah A X t.heap) A) args s 46 274 A) (F0 m 105 ls []) := by
  intro kk
  induction kk with
  | zero =>
    intro u hu Lv nv cv σv hG hσ H locs hB hS ls hl
    have huN : u = 3 := by omega
    refine lv_iload_n hx hb dX5_found_105 rfl (lv_at hl 0 rfl) ?_
    refine lv_iconst (v := 3) hx hb dX5_found_106 (by decide) ?_
    refine lv_icmp_ge (tgt := 138) hx hb dX5_found_107 (by decide) (fun c_107 => ?_) (fun c_107 => ?_)
    · refine lv_iconst (v := 1) hx hb dX5_found_138 (by decide) ?_
      refine W.widen (k := 46) (n := 274) (by omega) (by omega) ?_
      exact W.zret (v := 1) (ty := .boolean) hx hb hr rfl (fun U9 ht hW9 => ⟨⟨1, (Lv, nv, cv, σv), rfl, ⟨rfl, by rw [hσ, huN], by rw [huN] at hG; exact hG⟩, by show tl_Bx D d a0 w b cB Lh Ah A _ U9.heap; rw [ht]; exact hB⟩, hS.F ht⟩) hS.2.2 dX5_found_139
    · exact absurd (by rw [sp_three, huN]; exact nI_le (Nat.le_refl _) (by omega)) c_107
  | succ kk ih =>
    intro u hu Lv nv cv σv hG hσ H locs hB hS ls hl
    have huN : u < 3 := by omega
    refine lv_iload_n hx hb dX5_found_105 rfl (lv_at hl 0 rfl) ?_
    refine lv_iconst (v := 3) hx hb dX5_found_106 (by decide) ?_
    refine lv_icmp_ge (tgt := 138) hx hb dX5_found_107 (by decide) (fun c_107 => ?_) (fun c_107 => ?_)
    · exact absurd (by rw [sp_three] at c_107; exact c_107) (nI_ge huN (by omega))
    · refine lv_aload_n hx hb dX5_found_110 rfl (lv_at hl 1 rfl) ?_
      refine lv_aload_n hx hb dX5_found_111 rfl (lv_at hl 1 rfl) ?_
      refine lv_bipush (v := 10) hx hb dX5_found_112 (by decide) ?_
      refine tl_draw (k := (k + 88 + 2 * u)) ⟨hx, hb, hml, hown, hts⟩ (cwV 1 hts gX5_found_X5_draw rfl rfl rfl (by decide +kernel) ⟨Nat.le_of_ble_eq_true rfl, Nat.le_of_ble_eq_true rfl⟩) hG.2.2.2.1 (by omega) hN31 (by decide) hKK hH hB hS rfl hl.1 (Nat.le_of_ble_eq_true rfl) dX5_found_114 ⟨by show _ ≤ 46; omega, by show _ ≤ 274; omega⟩ rfl (fun H locs hB hz hqq hS => ?_)
      have hB : tl_B D d a0 w b cB Lh Ah A Lv nv (hs_sg cv 0 0 2 (nI ((k + 88 + 2 * u) + 1))) σv H := hB
      refine lv_iconst (v := 1) hx hb dX5_found_117 (by decide) ?_
      refine lv_aload_n hx hb dX5_found_118 rfl (lv_at hl 1 rfl) ?_
      refine lv_iconst (v := 4) hx hb dX5_found_119 (by decide) ?_
      refine tl_draw (k := ((k + 88 + 2 * u) + 1)) ⟨hx, hb, hml, hown, hts⟩ (cwV 1 hts gX5_found_X5_draw rfl rfl rfl (by decide +kernel) ⟨Nat.le_of_ble_eq_true rfl, Nat.le_of_ble_eq_true rfl⟩) rfl (by omega) hN31 (by decide) hKK hH hB hS rfl hl.1 (Nat.le_of_ble_eq_true rfl) dX5_found_120 ⟨by show _ ≤ 46; omega, by show _ ≤ 274; omega⟩ rfl (fun H locs hB hz hqq hS => ?_)
      have hB : tl_B D d a0 w b cB Lh Ah A Lv nv (hs_sg (hs_sg cv 0 0 2 (nI ((k + 88 + 2 * u) + 1))) 0 0 2 (nI ((k + 88 + 2 * u) + 1 + 1))) σv H := hB
      refine lv_iadd hx hb dX5_found_123 ?_
      refine tl_calli (As := [.int (tl_v xs N (k + 88 + 2 * u) 10), .int (1 + (tl_v xs N ((k + 88 + 2 * u) + 1) 4))]) ⟨hx, hb, hml, hown, hts⟩ (kX5_room l D d a0 w b cB Lh L2 Ah A N xs Lv nv (hs_sg (hs_sg cv 0 0 2 (nI ((k + 88 + 2 * u) + 1))) 0 0 2 (nI ((k + 88 + 2 * u) + 1 + 1))) σv H.size (hH.up hS.1) hN31 4 0 u (k + 88 + 2 * u + 1 + 1) 0 (tg_draw hG rfl (fun a b_ e_ h_ => by simp only [hs_sg]; repeat rw [if_neg (by omega)]) rfl) (by omega) (by omega) (by omega) (by omega) _ _ (tl_vp xs N _ (m := 10) (by decide) (by decide)) (tl_vl xs N _ (m := 10) (a := 9) (by decide) (by decide) (by decide)) (tl_b4 xs N _).1 (tl_b4 xs N _).2) (cwV 2 hts gX5_found_X5_room rfl rfl rfl (by decide +kernel) ⟨Nat.le_of_ble_eq_true rfl, Nat.le_of_ble_eq_true rfl⟩) hKK hH hB hS rfl hl.1 (Nat.le_of_ble_eq_true rfl) dX5_found_124 ⟨by show 40 + 2 * u + 2 ≤ 46; omega, by show 244 + 10 * u + 10 ≤ 274; omega⟩ rfl (fun r_ X_ H locs hp hB hz hS => ?_)
      obtain ⟨Lw, nw, cw, σw⟩ := X_
      obtain ⟨e1_, e2_, e3_⟩ := hp
      have e2_ : σw = _ := e2_
      subst e1_
      have hB : tl_B D d a0 w b cB Lh Ah A Lw nw cw σw H := hB
      refine lv_if_ne (tgt := 132) hx hb dX5_found_127 (by decide) (fun c_127 => ?_) (fun c_127 => ?_)
      · refine lv_iinc (v := nI (u + 1)) (lv' := [(2, .int (nI (u + 1))), (0, .ref a0)]) hx hb dX5_found_132 hl (k := 0) rfl (nI_succ _).symm (by decide) rfl (fun ls hl => ?_)
        refine lv_goto (tgt := 105) hx hb dX5_found_135 (by decide) ?_
        exact ih (u + 1) (by omega) Lw nw cw σw e3_ (by rw [e2_, hσ]; rfl) H locs hB hS ls (lv_sub hl [0, 1] rfl)
      · exact absurd c_127 (by decide +kernel)
set_option maxHeartbeats 4000000 in
set_option maxRecDepth 100000 in
/-- Told: found: the loop at 49 -/
theorem lkX5_foundB (l : Launch) (D : va_G) (d : hs_Dm) (a0 w b : Nat) (cB : ClassId) (Lh L2 : hs_Lo) (Ah A : Nat → Prop) (N : Nat) (xs : Nat → Int32) (L : hs_Lo) (n : Nat → Nat) (c σ : hs_St)  (hN31 : N < 2 ^ 31) {p : Program} {e : Env} {s : State} {m : MethodId} {args : Array Value} {below : List Frame} {meth : Method} {c0 : Code} (P q k : Nat) (σ1 : hs_St) (hq : q < P) (hP4 : P ≤ 4) (hk20 : k < 2 ^ 19) (hx : p.tables.exec = Jvm.exec) (hb : c0.code = cX5_found) (hr : meth.sig.returnType = (some .boolean)) (hts : ∀ w ∈ wsX5_found, w.before args s = true) (hown : s.vm.findClass RX5 = some m.cls) (hlocks : meth.locks = false) (hml : c0.maxLocals = 4) (hKK : tl_K D d w b cB Lh L2 A N xs s s.heap) (hH : tl_H w b Ah A s.heap.size) {Q : State → Prop} (kx : ∀ (Lv : hs_Lo) (nv : Nat → Nat) (cv σv : hs_St) (hG : tg P 0 0 nv cv σv (k + 18) 0) (hσ : σv = tf_m xs N σ1 q k 6) (H : Heap) (locs : List Loc), tl_B D d a0 w b cB Lh Ah A Lv nv cv σv H → va_S A s.heap H locs → ∀ ls : Array Slot, lv_has ls 4 [(2, .int (nI q)), (1, .int 4), (0, .ref a0)] → W p l e ({ frames := 6, cells := 46, slots := 274, locals := 160 } : Room) s m args below meth c0 H locs (10 * q + 10) (61 * q + 61) Q (F0 m 97 ls [])) : ∀ (kk u : Nat), u + kk = 6 → ∀ (Lv : hs_Lo) (nv : Nat → Nat) (cv σv : hs_St) (hG : tg P 0 0 nv cv σv (k + 3 * u) 0) (hσ : σv = tf_m xs N σ1 q k u) (H : Heap) (locs : List Loc), tl_B D d a0 w b cB Lh Ah A Lv nv cv σv H → va_S A s.heap H locs → ∀ ls : Array Slot, lv_has ls 4 [(3, .int (nI u)), (2, .int (nI q)), (1, .int 4), (0, .ref a0)] → W p l e ({ frames := 6, cells := 46, slots := 274, locals := 160 } : Room) s m args below meth c0 H locs (10 * q + 10) (61 * q + 61) Q (F0 m 49 ls []) := by
  intro kk
  induction kk with
  | zero =>
    intro u hu Lv nv cv σv hG hσ H locs hB hS ls hl
    have huN : u = 6 := by omega
    refine lv_iload_n hx hb dX5_found_49 rfl (lv_at hl 0 rfl) ?_
    refine lv_bipush (v := 6) hx hb dX5_found_50 (by decide) ?_
    refine lv_icmp_ge (tgt := 97) hx hb dX5_found_52 (by decide) (fun c_52 => ?_) (fun c_52 => ?_)
    · exact kx Lv nv cv σv (by rw [huN] at hG; exact hG) (by rw [hσ, huN]) H locs hB hS ls (lv_sub hl [1, 2, 3] rfl)
    · exact absurd (by rw [sp_six, huN]; exact nI_le (Nat.le_refl _) (by omega)) c_52
  | succ kk ih =>
    intro u hu Lv nv cv σv hG hσ H locs hB hS ls hl
    have huN : u < 6 := by omega
    refine lv_iload_n hx hb dX5_found_49 rfl (lv_at hl 0 rfl) ?_
    refine lv_bipush (v := 6) hx hb dX5_found_50 (by decide) ?_
    refine lv_icmp_ge (tgt := 97) hx hb dX5_found_52 (by decide) (fun c_52 => ?_) (fun c_52 => ?_)
    · exact absurd (by rw [sp_six] at c_52; exact c_52) (nI_ge huN (by omega))
    · refine lv_aload_n hx hb dX5_found_55 rfl (lv_at hl 3 rfl) ?_
      refine lv_iload_n hx hb dX5_found_56 rfl (lv_at hl 1 rfl) ?_
      refine lv_iload_n hx hb dX5_found_57 rfl (lv_at hl 0 rfl) ?_
      refine lv_aload_n hx hb dX5_found_58 rfl (lv_at hl 3 rfl) ?_
      refine lv_bipush (v := 100) hx hb dX5_found_59 (by decide) ?_
      refine tl_draw (k := (k + 3 * u)) ⟨hx, hb, hml, hown, hts⟩ (cwV 1 hts gX5_found_X5_draw rfl rfl rfl (by decide +kernel) ⟨Nat.le_of_ble_eq_true rfl, Nat.le_of_ble_eq_true rfl⟩) hG.2.2.2.1 (by omega) hN31 (by decide) hKK hH hB hS rfl hl.1 (Nat.le_of_ble_eq_true rfl) dX5_found_61 ⟨by show _ ≤ 46; omega, by show _ ≤ 274; omega⟩ rfl (fun H locs hB hz hqq hS => ?_)
      have hB : tl_B D d a0 w b cB Lh Ah A Lv nv (hs_sg cv 0 0 2 (nI ((k + 3 * u) + 1))) σv H := hB
      refine lv_aload_n hx hb dX5_found_64 rfl (lv_at hl 3 rfl) ?_
      refine lv_aload_n hx hb dX5_found_65 rfl (lv_at hl 3 rfl) ?_
      refine lv_iconst (v := 3) hx hb dX5_found_66 (by decide) ?_
      refine tl_draw (k := ((k + 3 * u) + 1)) ⟨hx, hb, hml, hown, hts⟩ (cwV 1 hts gX5_found_X5_draw rfl rfl rfl (by decide +kernel) ⟨Nat.le_of_ble_eq_true rfl, Nat.le_of_ble_eq_true rfl⟩) rfl (by omega) hN31 (by decide) hKK hH hB hS rfl hl.1 (Nat.le_of_ble_eq_true rfl) dX5_found_67 ⟨by show _ ≤ 46; omega, by show _ ≤ 274; omega⟩ rfl (fun H locs hB hz hqq hS => ?_)
      have hB : tl_B D d a0 w b cB Lh Ah A Lv nv (hs_sg (hs_sg cv 0 0 2 (nI ((k + 3 * u) + 1))) 0 0 2 (nI ((k + 3 * u) + 1 + 1))) σv H := hB
      refine lv_if_ne (tgt := 78) hx hb dX5_found_70 (by decide) (fun c_70 => ?_) (fun c_70 => ?_)
      · refine lv_bipush (v := 6) hx hb dX5_found_78 (by decide) ?_
        refine tl_draw (k := ((k + 3 * u) + 1 + 1)) ⟨hx, hb, hml, hown, hts⟩ (cwV 1 hts gX5_found_X5_draw rfl rfl rfl (by decide +kernel) ⟨Nat.le_of_ble_eq_true rfl, Nat.le_of_ble_eq_true rfl⟩) rfl (by omega) hN31 (by decide) hKK hH hB hS rfl hl.1 (Nat.le_of_ble_eq_true rfl) dX5_found_80 ⟨by show _ ≤ 46; omega, by show _ ≤ 274; omega⟩ rfl (fun H locs hB hz hqq hS => ?_)
        have hB : tl_B D d a0 w b cB Lh Ah A Lv nv (hs_sg (hs_sg (hs_sg cv 0 0 2 (nI ((k + 3 * u) + 1))) 0 0 2 (nI ((k + 3 * u) + 1 + 1))) 0 0 2 (nI ((k + 3 * u) + 1 + 1 + 1))) σv H := hB
        refine tl_calli (As := [.int (nI q), .int (nI u), .int (tl_v xs N (k + 3 * u) 100), .int (tl_v xs N ((k + 3 * u) + 1 + 1) 6)]) ⟨hx, hb, hml, hown, hts⟩ (kX5_measure l D d a0 w b cB Lh L2 Ah A N xs Lv nv (hs_sg (hs_sg (hs_sg cv 0 0 2 (nI ((k + 3 * u) + 1))) 0 0 2 (nI ((k + 3 * u) + 1 + 1))) 0 0 2 (nI ((k + 3 * u) + 1 + 1 + 1))) σv H.size (hH.up hS.1) hN31 P 0 0 (k + 3 * u + 1 + 1 + 1) 0 (tg_draw hG rfl (fun a b_ e_ h_ => by simp only [hs_sg]; repeat rw [if_neg (by omega)]) rfl) (by omega) (by omega) (by omega) (by omega) q u hq huN _ _ (tl_vp xs N _ (m := 100) (by decide) (by decide)) (tl_vl xs N _ (m := 100) (a := 99) (by decide) (by decide) (by decide)) (tl_vp xs N _ (m := 6) (by decide) (by decide)) (tl_vl xs N _ (m := 6) (a := 20) (by decide) (by decide) (by decide))) (cwV 4 hts gX5_found_X5_measure rfl rfl rfl (by decide +kernel) ⟨Nat.le_of_ble_eq_true rfl, Nat.le_of_ble_eq_true rfl⟩) hKK hH hB hS rfl hl.1 (Nat.le_of_ble_eq_true rfl) dX5_found_83 ⟨by show 10 * q + 10 + 0 ≤ 46; omega, by show 61 * q + 61 + 0 ≤ 274; omega⟩ rfl (fun r_ X_ H locs hp hB hz hS => ?_)
        obtain ⟨Lw, nw, cw, σw⟩ := X_
        obtain ⟨e1_, e2_, e3_⟩ := hp
        have e2_ : σw = _ := e2_
        subst e1_
        have hB : tl_B D d a0 w b cB Lh Ah A Lw nw cw σw H := hB
        refine lv_if_ne (tgt := 91) hx hb dX5_found_86 (by decide) (fun c_86 => ?_) (fun c_86 => ?_)
        · refine lv_iinc (v := nI (u + 1)) (lv' := [(3, .int (nI (u + 1))), (2, .int (nI q)), (1, .int 4), (0, .ref a0)]) hx hb dX5_found_91 hl (k := 0) rfl (nI_succ _).symm (by decide) rfl (fun ls hl => ?_)
          refine lv_goto (tgt := 49) hx hb dX5_found_94 (by decide) ?_
          exact ih (u + 1) (by omega) Lw nw cw σw e3_ (by rw [e2_, hσ]; show _ = tl_ms (tf_m xs N σ1 q k u) q u _ (tl_v xs N _ (if tl_v xs N (k + 3 * u + 1) 3 = 0 then 21 else 6)); rw [if_neg c_70]) H locs hB hS ls (lv_sub hl [0, 1, 2, 3] rfl)
        · exact absurd c_86 (by decide +kernel)
      · refine lv_bipush (v := 21) hx hb dX5_found_73 (by decide) ?_
        refine lv_goto (tgt := 80) hx hb dX5_found_75 (by decide) ?_
        refine tl_draw (k := ((k + 3 * u) + 1 + 1)) ⟨hx, hb, hml, hown, hts⟩ (cwV 1 hts gX5_found_X5_draw rfl rfl rfl (by decide +kernel) ⟨Nat.le_of_ble_eq_true rfl, Nat.le_of_ble_eq_true rfl⟩) rfl (by omega) hN31 (by decide) hKK hH hB hS rfl hl.1 (Nat.le_of_ble_eq_true rfl) dX5_found_80 ⟨by show _ ≤ 46; omega, by show _ ≤ 274; omega⟩ rfl (fun H locs hB hz hqq hS => ?_)
        have hB : tl_B D d a0 w b cB Lh Ah A Lv nv (hs_sg (hs_sg (hs_sg cv 0 0 2 (nI ((k + 3 * u) + 1))) 0 0 2 (nI ((k + 3 * u) + 1 + 1))) 0 0 2 (nI ((k + 3 * u) + 1 + 1 + 1))) σv H := hB
        refine tl_calli (As := [.int (nI q), .int (nI u), .int (tl_v xs N (k + 3 * u) 100), .int (tl_v xs N ((k + 3 * u) + 1 + 1) 21)]) ⟨hx, hb, hml, hown, hts⟩ (kX5_measure l D d a0 w b cB Lh L2 Ah A N xs Lv nv (hs_sg (hs_sg (hs_sg cv 0 0 2 (nI ((k + 3 * u) + 1))) 0 0 2 (nI ((k + 3 * u) + 1 + 1))) 0 0 2 (nI ((k + 3 * u) + 1 + 1 + 1))) σv H.size (hH.up hS.1) hN31 P 0 0 (k + 3 * u + 1 + 1 + 1) 0 (tg_draw hG rfl (fun a b_ e_ h_ => by simp only [hs_sg]; repeat rw [if_neg (by omega)]) rfl) (by omega) (by omega) (by omega) (by omega) q u hq huN _ _ (tl_vp xs N _ (m := 100) (by decide) (by decide)) (tl_vl xs N _ (m := 100) (a := 99) (by decide) (by decide) (by decide)) (tl_vp xs N _ (m := 21) (by decide) (by decide)) (tl_vl xs N _ (m := 21) (a := 20) (by decide) (by decide) (by decide))) (cwV 4 hts gX5_found_X5_measure rfl rfl rfl (by decide +kernel) ⟨Nat.le_of_ble_eq_true rfl, Nat.le_of_ble_eq_true rfl⟩) hKK hH hB hS rfl hl.1 (Nat.le_of_ble_eq_true rfl) dX5_found_83 ⟨by show 10 * q + 10 + 0 ≤ 46; omega, by show 61 * q + 61 + 0 ≤ 274; omega⟩ rfl (fun r_ X_ H locs hp hB hz hS => ?_)
        obtain ⟨Lw, nw, cw, σw⟩ := X_
        obtain ⟨e1_, e2_, e3_⟩ := hp
        have e2_ : σw = _ := e2_
        subst e1_
        have hB : tl_B D d a0 w b cB Lh Ah A Lw nw cw σw H := hB
        refine lv_if_ne (tgt := 91) hx hb dX5_found_86 (by decide) (fun c_86 => ?_) (fun c_86 => ?_)
        · refine lv_iinc (v := nI (u + 1)) (lv' := [(3, .int (nI (u + 1))), (2, .int (nI q)), (1, .int 4), (0, .ref a0)]) hx hb dX5_found_91 hl (k := 0) rfl (nI_succ _).symm (by decide) rfl (fun ls hl => ?_)
          refine lv_goto (tgt := 49) hx hb dX5_found_94 (by decide) ?_
          exact ih (u + 1) (by omega) Lw nw cw σw e3_ (by rw [e2_, hσ]; show _ = tl_ms (tf_m xs N σ1 q k u) q u _ (tl_v xs N _ (if tl_v xs N (k + 3 * u + 1) 3 = 0 then 21 else 6)); rw [if_pos c_70]) H locs hB hS ls (lv_sub hl [0, 1, 2, 3] rfl)
        · exact absurd c_86 (by decide +kernel)
set_option maxHeartbeats 4000000 in
set_option maxRecDepth 100000 in
/-- Told: found: the loop at 2 -/
theorem lkX5_foundA (l : Launch) (D : va_G) (d : hs_Dm) (a0 w b : Nat) (cB : ClassId) (Lh L2 : hs_Lo) (Ah A : Nat → Prop) (N : Nat) (xs : Nat → Int32) (L : hs_Lo) (n : Nat → Nat) (c σ : hs_St)  (hN31 : N < 2 ^ 31) {p : Program} {e : Env} {s : State} {m : MethodId} {args : Array Value} {below : List Frame} {meth : Method} {c0 : Code} (k : Nat) (hk20 : k < 2 ^ 18) (hx : p.tables.exec = Jvm.exec) (hb : c0.code = cX5_found) (hr : meth.sig.returnType = (some .boolean)) (hts : ∀ w ∈ wsX5_found, w.before args s = true) (hown : s.vm.findClass RX5 = some m.cls) (hlocks : meth.locks = false) (hml : c0.maxLocals = 4) (hKK : tl_K D d w b cB Lh L2 A N xs s s.heap) (hH : tl_H w b Ah A s.heap.size) : ∀ (kk u : Nat), u + kk = 4 → ∀ (Lv : hs_Lo) (nv : Nat → Nat) (cv σv : hs_St) (hG : tg u 0 0 nv cv σv (k + 22 * u) 0) (hσ : σv = tf_p xs N σ k u) (H : Heap) (locs : List Loc), tl_B D d a0 w b cB Lh Ah A Lv nv cv σv H → va_S A s.heap H locs → ∀ ls : Array Slot, lv_has ls 4 [(2, .int (nI u)), (1, .int 4), (0, .ref a0)] → W p l e ({ frames := 6, cells := 46, slots := 274, locals := 160 } : Room) s m args below meth c0 H locs (10 * u) (61 * u) (MQ below (va_Qi (fun r X => r = 1 ∧ X.2.2.2 = tf_r xs N (tf_p xs N σ k 4) (k + 88) 3 ∧ tg 4 0 3 X.2.1 X.2.2.1 X.2.2.2 (k + 94) 0) (fun X t => tl_Bx D d a0 w b cB Lh Ah A X t.heap) A) args s 46 274 A) (F0 m 2 ls []) := by
  intro kk
  induction kk with
  | zero =>
    intro u hu Lv nv cv σv hG hσ H locs hB hS ls hl
    have huN : u = 4 := by omega
    refine lv_iload_n hx hb dX5_found_2 rfl (lv_at hl 0 rfl) ?_
    refine lv_iload_n hx hb dX5_found_3 rfl (lv_at hl 1 rfl) ?_
    refine lv_icmp_ge (tgt := 103) hx hb dX5_found_4 (by decide) (fun c_4 => ?_) (fun c_4 => ?_)
    · refine lv_iconst (v := 0) hx hb dX5_found_103 (by decide) ?_
      refine lv_istore_n (lv' := [(2, .int 0), (1, .int 4), (0, .ref a0)]) hx hb dX5_found_104 rfl hl (by decide) rfl (fun ls hl => ?_)
      refine W.widen (k := 40 + 2 * 0) (n := 244 + 10 * 0) (by omega) (by omega) ?_
      exact lkX5_foundC l D d a0 w b cB Lh L2 Ah A N xs L n c σ hN31 k (by omega) hx hb hr hts hown hlocks hml hKK hH 3 0 (by omega) Lv nv cv σv (by have h_ := hG; rw [huN] at h_; exact h_) (by rw [hσ, huN]; rfl) _ _ hB hS ls (lv_sub hl [0, 2] rfl)
    · exact absurd (by rw [huN]; exact nI_le (a := 4) (b := 4) (Nat.le_refl _) (by decide)) c_4
  | succ kk ih =>
    intro u hu Lv nv cv σv hG hσ H locs hB hS ls hl
    have huN : u < 4 := by omega
    refine lv_iload_n hx hb dX5_found_2 rfl (lv_at hl 0 rfl) ?_
    refine lv_iload_n hx hb dX5_found_3 rfl (lv_at hl 1 rfl) ?_
    refine lv_icmp_ge (tgt := 103) hx hb dX5_found_4 (by decide) (fun c_4 => ?_) (fun c_4 => ?_)
    · exact absurd c_4 (nI_ge (b := 4) huN (by decide))
    · refine lv_aload_n hx hb dX5_found_7 rfl (lv_at hl 2 rfl) ?_
      refine lv_bipush (v := 100) hx hb dX5_found_8 (by decide) ?_
      refine lv_aload_n hx hb dX5_found_10 rfl (lv_at hl 2 rfl) ?_
      refine lv_sipush (v := 900) hx hb dX5_found_11 (by decide) ?_
      refine tl_draw (k := (k + 22 * u)) ⟨hx, hb, hml, hown, hts⟩ (cwV 1 hts gX5_found_X5_draw rfl rfl rfl (by decide +kernel) ⟨Nat.le_of_ble_eq_true rfl, Nat.le_of_ble_eq_true rfl⟩) hG.2.2.2.1 (by omega) hN31 (by decide) hKK hH hB hS rfl hl.1 (Nat.le_of_ble_eq_true rfl) dX5_found_14 ⟨by show _ ≤ 46; omega, by show _ ≤ 274; omega⟩ rfl (fun H locs hB hz hqq hS => ?_)
      have hB : tl_B D d a0 w b cB Lh Ah A Lv nv (hs_sg cv 0 0 2 (nI ((k + 22 * u) + 1))) σv H := hB
      refine lv_iadd hx hb dX5_found_17 ?_
      refine tl_calli (As := [.int (100 + (tl_v xs N (k + 22 * u) 900))]) ⟨hx, hb, hml, hown, hts⟩ (kX5_person l D d a0 w b cB Lh L2 Ah A N xs Lv nv (hs_sg cv 0 0 2 (nI ((k + 22 * u) + 1))) σv H.size (hH.up hS.1) hN31 u 0 0 (k + 22 * u + 1) 0 (tg_draw hG rfl (fun a b_ e_ h_ => by simp only [hs_sg]; repeat rw [if_neg (by omega)]) rfl) (by omega) (by omega) (by omega) (by omega) (by omega) _ (tl_b100 xs N _).1 (tl_b100 xs N _).2) (cwV 1 hts gX5_found_X5_person rfl rfl rfl (by decide +kernel) ⟨Nat.le_of_ble_eq_true rfl, Nat.le_of_ble_eq_true rfl⟩) hKK hH hB hS rfl hl.1 (Nat.le_of_ble_eq_true rfl) dX5_found_18 ⟨by show _ ≤ 46; omega, by show _ ≤ 274; omega⟩ rfl (fun r_ X_ H locs hp hB hz hS => ?_)
      obtain ⟨Lw, nw, cw, σw⟩ := X_
      obtain ⟨e1_, e2_, e3_⟩ := hp
      have e2_ : σw = _ := e2_
      subst e1_
      have hB : tl_B D d a0 w b cB Lh Ah A Lw nw cw σw H := hB
      refine lv_if_eq (tgt := 45) hx hb dX5_found_21 (by decide) (fun c_21 => ?_) (fun c_21 => ?_)
      · exact absurd c_21 (by decide +kernel)
      · refine lv_aload_n hx hb dX5_found_24 rfl (lv_at hl 2 rfl) ?_
        refine lv_iload_n hx hb dX5_found_25 rfl (lv_at hl 0 rfl) ?_
        refine lv_aload_n hx hb dX5_found_26 rfl (lv_at hl 2 rfl) ?_
        refine lv_iconst (v := 5) hx hb dX5_found_27 (by decide) ?_
        refine tl_draw (k := (k + 22 * u + 1 + 2)) ⟨hx, hb, hml, hown, hts⟩ (cwV 1 hts gX5_found_X5_draw rfl rfl rfl (by decide +kernel) ⟨Nat.le_of_ble_eq_true rfl, Nat.le_of_ble_eq_true rfl⟩) e3_.2.2.2.1 (by omega) hN31 (by decide) hKK hH hB hS rfl hl.1 (Nat.le_of_ble_eq_true rfl) dX5_found_28 ⟨by show _ ≤ 46; omega, by show _ ≤ 274; omega⟩ rfl (fun H locs hB hz hqq hS => ?_)
        have hB : tl_B D d a0 w b cB Lh Ah A Lw nw (hs_sg cw 0 0 2 (nI ((k + 22 * u + 1 + 2) + 1))) σw H := hB
        refine lv_if_le (tgt := 38) hx hb dX5_found_31 (by decide) (fun c_31 => ?_) (fun c_31 => ?_)
        · refine lv_iconst (v := 0) hx hb dX5_found_38 (by decide) ?_
          refine tl_calli (As := [.int (nI u), .int 0]) ⟨hx, hb, hml, hown, hts⟩ (kX5_consent_0 l D d a0 w b cB Lh L2 Ah A N xs Lw nw (hs_sg cw 0 0 2 (nI ((k + 22 * u + 1 + 2) + 1))) σw H.size (hH.up hS.1) hN31 (u + 1) 0 (k + 22 * u + 1 + 2 + 1) 0 (tg_draw e3_ rfl (fun a b_ e_ h_ => by simp only [hs_sg]; repeat rw [if_neg (by omega)]) rfl) (by omega) (by omega) (by omega) u (by omega)) (cwV 2 hts gX5_found_X5_consent rfl rfl rfl (by decide +kernel) ⟨Nat.le_of_ble_eq_true rfl, Nat.le_of_ble_eq_true rfl⟩) hKK hH hB hS rfl hl.1 (Nat.le_of_ble_eq_true rfl) dX5_found_39 ⟨by show _ ≤ 46; omega, by show _ ≤ 274; omega⟩ rfl (fun r_ X_ H locs hp hB hz hS => ?_)
          obtain ⟨Ly, ny, cy, σy⟩ := X_
          obtain ⟨f1_, f2_, f3_⟩ := hp
          have f2_ : σy = _ := f2_
          subst f1_
          have hB : tl_B D d a0 w b cB Lh Ah A Ly ny cy σy H := hB
          refine lv_if_ne (tgt := 47) hx hb dX5_found_42 (by decide) (fun c_42 => ?_) (fun c_42 => ?_)
          · refine lv_iconst (v := 0) hx hb dX5_found_47 (by decide) ?_
            refine lv_istore_n (lv' := [(3, .int 0), (2, .int (nI u)), (1, .int 4), (0, .ref a0)]) hx hb dX5_found_48 rfl hl (by decide) rfl (fun ls hl => ?_)
            refine lkX5_foundB l D d a0 w b cB Lh L2 Ah A N xs L n c σ hN31 (u + 1) u (k + 22 * u + 1 + 2 + 1) σy (by omega) (by omega) (by omega) hx hb hr hts hown hlocks hml hKK hH (fun Lz nz cz σz hGz hσz H locs hB hS ls hl => ?_) 6 0 (by omega) Ly ny cy σy f3_ rfl _ _ hB hS ls (lv_sub hl [0, 1, 2, 3] rfl)
            have hB : tl_B D d a0 w b cB Lh Ah A Lz nz cz σz H := hB
            refine lv_iinc (v := nI (u + 1)) (lv' := [(2, .int (nI (u + 1))), (1, .int 4), (0, .ref a0)]) hx hb dX5_found_97 hl (k := 0) rfl (nI_succ _).symm (by decide) rfl (fun ls hl => ?_)
            refine lv_goto (tgt := 2) hx hb dX5_found_100 (by decide) ?_
            exact ih (u + 1) (by omega) Lz nz cz σz (by have h_ := hGz; rw [show k + 22 * u + 1 + 2 + 1 + 18 = k + 22 * (u + 1) by omega] at h_; exact h_) (by rw [hσz, f2_, e2_, hσ]; show _ = tf_m xs N (hs_sg (sp_newP (tf_p xs N σ k u) u (100 + tl_v xs N (k + 22 * u) 900) (tl_v xs N (k + 22 * u + 1) 1000) (tl_v xs N (k + 22 * u + 1 + 1) 1000)) 4 u 5 (tf_c xs N (k + 22 * u + 1 + 2))) u (k + 22 * u + 1 + 2 + 1) 6; unfold tf_c; rw [if_pos c_31]) H locs hB hS ls (lv_sub hl [0, 1, 2] rfl)
          · exact absurd c_42 (by decide +kernel)
        · refine lv_iconst (v := 1) hx hb dX5_found_34 (by decide) ?_
          refine lv_goto (tgt := 39) hx hb dX5_found_35 (by decide) ?_
          refine tl_calli (As := [.int (nI u), .int 1]) ⟨hx, hb, hml, hown, hts⟩ (kX5_consent_1 l D d a0 w b cB Lh L2 Ah A N xs Lw nw (hs_sg cw 0 0 2 (nI ((k + 22 * u + 1 + 2) + 1))) σw H.size (hH.up hS.1) hN31 (u + 1) 0 (k + 22 * u + 1 + 2 + 1) 0 (tg_draw e3_ rfl (fun a b_ e_ h_ => by simp only [hs_sg]; repeat rw [if_neg (by omega)]) rfl) (by omega) (by omega) (by omega) u (by omega)) (cwV 2 hts gX5_found_X5_consent rfl rfl rfl (by decide +kernel) ⟨Nat.le_of_ble_eq_true rfl, Nat.le_of_ble_eq_true rfl⟩) hKK hH hB hS rfl hl.1 (Nat.le_of_ble_eq_true rfl) dX5_found_39 ⟨by show _ ≤ 46; omega, by show _ ≤ 274; omega⟩ rfl (fun r_ X_ H locs hp hB hz hS => ?_)
          obtain ⟨Ly, ny, cy, σy⟩ := X_
          obtain ⟨f1_, f2_, f3_⟩ := hp
          have f2_ : σy = _ := f2_
          subst f1_
          have hB : tl_B D d a0 w b cB Lh Ah A Ly ny cy σy H := hB
          refine lv_if_ne (tgt := 47) hx hb dX5_found_42 (by decide) (fun c_42 => ?_) (fun c_42 => ?_)
          · refine lv_iconst (v := 0) hx hb dX5_found_47 (by decide) ?_
            refine lv_istore_n (lv' := [(3, .int 0), (2, .int (nI u)), (1, .int 4), (0, .ref a0)]) hx hb dX5_found_48 rfl hl (by decide) rfl (fun ls hl => ?_)
            refine lkX5_foundB l D d a0 w b cB Lh L2 Ah A N xs L n c σ hN31 (u + 1) u (k + 22 * u + 1 + 2 + 1) σy (by omega) (by omega) (by omega) hx hb hr hts hown hlocks hml hKK hH (fun Lz nz cz σz hGz hσz H locs hB hS ls hl => ?_) 6 0 (by omega) Ly ny cy σy f3_ rfl _ _ hB hS ls (lv_sub hl [0, 1, 2, 3] rfl)
            have hB : tl_B D d a0 w b cB Lh Ah A Lz nz cz σz H := hB
            refine lv_iinc (v := nI (u + 1)) (lv' := [(2, .int (nI (u + 1))), (1, .int 4), (0, .ref a0)]) hx hb dX5_found_97 hl (k := 0) rfl (nI_succ _).symm (by decide) rfl (fun ls hl => ?_)
            refine lv_goto (tgt := 2) hx hb dX5_found_100 (by decide) ?_
            exact ih (u + 1) (by omega) Lz nz cz σz (by have h_ := hGz; rw [show k + 22 * u + 1 + 2 + 1 + 18 = k + 22 * (u + 1) by omega] at h_; exact h_) (by rw [hσz, f2_, e2_, hσ]; show _ = tf_m xs N (hs_sg (sp_newP (tf_p xs N σ k u) u (100 + tl_v xs N (k + 22 * u) 900) (tl_v xs N (k + 22 * u + 1) 1000) (tl_v xs N (k + 22 * u + 1 + 1) 1000)) 4 u 5 (tf_c xs N (k + 22 * u + 1 + 2))) u (k + 22 * u + 1 + 2 + 1) 6; unfold tf_c; rw [if_neg c_31]) H locs hB hS ls (lv_sub hl [0, 1, 2] rfl)
          · exact absurd c_42 (by decide +kernel)
set_option maxHeartbeats 4000000 in
set_option maxRecDepth 100000 in
/-- Told: found -/
theorem kX5_found (l : Launch) (D : va_G) (d : hs_Dm) (a0 w b : Nat) (cB : ClassId) (Lh L2 : hs_Lo) (Ah A : Nat → Prop) (N : Nat) (xs : Nat → Int32) (L : hs_Lo) (n : Nat → Nat) (c σ : hs_St) (sz : Nat) (hH : tl_H w b Ah A sz) (hN31 : N < 2 ^ 31) (k : Nat) (hk20 : k < 2 ^ 18) (G : tg 0 0 0 n c σ k 0) : tl_Mi l yX5_found wsX5_found ({ frames := 6, cells := 46, slots := 274, locals := 160 }) D d a0 w b cB Lh L2 Ah A N xs L n c σ sz [.ref a0, .int 4] (fun r X => r = 1 ∧ X.2.2.2 = tf_r xs N (tf_p xs N σ k 4) (k + 88) 3 ∧ tg 4 0 3 X.2.1 X.2.2.1 X.2.2.2 (k + 94) 0) 46 274 := by
  refine Met.ofW (cc := cX5_found) (maxL := 4) (ret := (some .boolean)) (by decide) rfl ?_
  intro p e s m args below meth c0 s₁ B hml hv
  obtain ⟨rfl, hsz, hB, hKK⟩ := hv
  have hx := B.exec
  have hb := B.bytes
  have hr := B.returns
  have hts := atoms_spec (ws := wsX5_found) B.pre
  have hown : s.vm.findClass RX5 = some m.cls := findClass_of_methodNamed B.named
  have hlocks := B.notSynchronized
  have hS : va_S A s.heap s.heap [] := va_S.rf
  have hH : tl_H w b Ah A s.heap.size := by rw [hsz]; exact hH
  have hl := lv_entry ([.ref a0, .int 4]) (n := 4) (Nat.le_of_ble_eq_true rfl)
  rw [lg_entry_eq]
  generalize (lg_sl ([.ref a0, .int 4]) ++ List.replicate (4 - (lg_sl ([.ref a0, .int 4])).length) Slot.unset).toArray = ls at hl ⊢
  have hl : lv_has ls 4 [(0, .ref a0), (1, .int 4)] := hl
  refine lv_iconst (v := 0) hx hb dX5_found_0 (by decide) ?_
  refine lv_istore_n (lv' := [(2, .int 0), (0, .ref a0), (1, .int 4)]) hx hb dX5_found_1 rfl hl (by decide) rfl (fun ls hl => ?_)
  exact lkX5_foundA l D d a0 w b cB Lh L2 Ah A N xs L n c σ hN31 k hk20 hx hb hr hts hown hlocks hml hKK hH 4 0 (by omega) L n c σ G rfl _ _ hB hS ls (lv_sub hl [0, 2, 1] rfl)
