/-! TOLD'S METHODS: a day, days -/
set_option maxHeartbeats 4000000 in
set_option maxRecDepth 100000 in
/-- Told: go: the loop at 491 -/
theorem lkX5_goD (l : Launch) (D : va_G) (d : hs_Dm) (a0 w b : Nat) (cB : ClassId) (Lh L2 : hs_Lo) (Ah A : Nat → Prop) (N : Nat) (xs : Nat → Int32) (L : hs_Lo) (n : Nat → Nat) (c σ : hs_St)  (hN31 : N < 2 ^ 31) {p : Program} {e : Env} {s : State} {m : MethodId} {args : Array Value} {below : List Frame} {meth : Method} {c0 : Code} (P F R k dy : Nat) (σm : hs_St) (x z : Int32) (T : tm P F R n c σm k dy) (hP1 : 1 ≤ P) (hP7 : P ≤ 7) (hF7 : F ≤ 7) (h30 : (dy + 1) % 30 ≠ 0) (hdy : dy < 2 ^ 20) (hx : p.tables.exec = Jvm.exec) (hb : c0.code = cX5_go) (hr : meth.sig.returnType = (some .int)) (hts : ∀ w ∈ wsX5_go, w.before args s = true) (hown : s.vm.findClass RX5 = some m.cls) (hlocks : meth.locks = false) (hml : c0.maxLocals = 10) (hKK : tl_K D d w b cB Lh L2 A N xs s s.heap) (hH : tl_H w b Ah A s.heap.size) : ∀ (kk u : Nat), u + kk = F → ∀ (cv : hs_St) (many : Int32) (hfin : tm P F R n cv (sp_day σm P F x z).2 k (dy + 1) ∧ many = (sp_day σm P F x z).1 ∧ ∀ f, f < F → cv 16 f 6 = 5) (H : Heap) (locs : List Loc), tl_B D d a0 w b cB Lh Ah A L n cv σ H → va_S A s.heap H locs → ∀ ls : Array Slot, lv_has ls 10 [(7, .int (nI u)), (3, .int many), (2, .int z), (1, .int x), (0, .ref a0)] → W p l e ({ frames := 2, cells := 1, slots := 8, locals := 60 } : Room) s m args below meth c0 H locs 1 8 (MQ below (va_Qi (fun r X => X.1 = L ∧ X.2.1 = n ∧ X.2.2.2 = σ ∧ r = (sp_day σm P F x z).1 ∧ tm P F R n X.2.2.1 (sp_day σm P F x z).2 k (dy + 1)) (fun X t => tl_Bx D d a0 w b cB Lh Ah A X t.heap) A) args s 1 8 A) (F0 m 491 ls []) := by
  intro kk
  induction kk with
  | zero =>
    intro u hu cv many hfin H locs hB hS ls hl
    obtain ⟨⟨n1, n2, n3, n4, n5, n6, n7⟩, hk2, hd10, hd6, hpp, hff⟩ := id T
    have huN : u = F := by omega
    refine lv_iload hx hb dX5_go_491 (lv_at hl 0 rfl) ?_
    refine lv_aload_n hx hb dX5_go_493 rfl (lv_at hl 4 rfl) ?_
    refine tl_get hx hb hts (by decide +kernel) hown hKK.1 hB 8 (by decide) (hts (.fieldLink RX5 34 "WaxrowLaw$Told" "figures" "[[I") (by decide +kernel)) rfl (v := .ref (L 6 0)) rfl dX5_go_494 ?_
    refine tl_len hx hb hKK.2.1 hB 6 (by decide) (by decide) dX5_go_497 ?_
    rw [show n 6 = F from n6]
    refine lv_icmp_ge (tgt := 607) hx hb dX5_go_498 (by decide) (fun c_498 => ?_) (fun c_498 => ?_)
    · refine lv_iload_n hx hb dX5_go_607 rfl (lv_at hl 1 rfl) ?_
      refine W.widen (k := 1) (n := 8) (Nat.le_of_ble_eq_true rfl) (Nat.le_of_ble_eq_true rfl) ?_
      exact W.iret (v := many) hx hb hr (fun U9 ht hW9 => ⟨⟨many, (L, n, cv, σ), rfl, ⟨rfl, rfl, rfl, hfin.2.1, hfin.1⟩, by show tl_Bx D d a0 w b cB Lh Ah A _ U9.heap; rw [ht]; exact hB⟩, hS.F ht⟩) hS.2.2 dX5_go_608
    · exact absurd (by rw [huN]; exact nI_le (Nat.le_refl _) (by omega)) c_498
  | succ kk ih =>
    intro u hu cv many hfin H locs hB hS ls hl
    obtain ⟨⟨n1, n2, n3, n4, n5, n6, n7⟩, hk2, hd10, hd6, hpp, hff⟩ := id T
    have huN : u < F := by omega
    refine lv_iload hx hb dX5_go_491 (lv_at hl 0 rfl) ?_
    refine lv_aload_n hx hb dX5_go_493 rfl (lv_at hl 4 rfl) ?_
    refine tl_get hx hb hts (by decide +kernel) hown hKK.1 hB 8 (by decide) (hts (.fieldLink RX5 34 "WaxrowLaw$Told" "figures" "[[I") (by decide +kernel)) rfl (v := .ref (L 6 0)) rfl dX5_go_494 ?_
    refine tl_len hx hb hKK.2.1 hB 6 (by decide) (by decide) dX5_go_497 ?_
    rw [show n 6 = F from n6]
    refine lv_icmp_ge (tgt := 607) hx hb dX5_go_498 (by decide) (fun c_498 => ?_) (fun c_498 => ?_)
    · exact absurd c_498 (nI_ge huN (by omega))
    · refine lv_aload_n hx hb dX5_go_501 rfl (lv_at hl 4 rfl) ?_
      refine tl_get hx hb hts (by decide +kernel) hown hKK.1 hB 8 (by decide) (hts (.fieldLink RX5 34 "WaxrowLaw$Told" "figures" "[[I") (by decide +kernel)) rfl (v := .ref (L 6 0)) rfl dX5_go_502 ?_
      refine lv_iload hx hb dX5_go_505 (lv_at hl 0 rfl) ?_
      refine tl_aald hx hb hKK.2.1 hB 6 u (by decide) (by decide) (by rw [n6]; exact huN) (by omega) dX5_go_507 ?_
      refine lv_astore (lv' := [(8, .ref (L 16 u)), (7, .int (nI u)), (3, .int many), (2, .int z), (1, .int x), (0, .ref a0)]) hx hb dX5_go_508 hl (by decide) rfl (fun ls hl => ?_)
      refine lv_aload hx hb dX5_go_510 (lv_at hl 0 rfl) ?_
      refine lv_bipush (v := 6) hx hb dX5_go_512 (by decide) ?_
      refine tl_iald hx hb hKK.1 hB 6 u (by decide) (by decide) (by rw [n6]; exact huN) (i := 6) (by unfold vp_in; decide) dX5_go_514 ?_
      rw [show (6 : Int32).toNatClampNeg = 6 from by decide]
      rw [hfin.2.2 u huN]
      refine lv_bipush (v := 6) hx hb dX5_go_515 (by decide) ?_
      refine lv_icmp_eq (tgt := 523) hx hb dX5_go_517 (by decide) (fun c_517 => ?_) (fun c_517 => ?_)
      · exact absurd c_517 (by decide +kernel)
      · refine lv_goto (tgt := 601) hx hb dX5_go_520 (by decide) ?_
        refine lv_iinc (v := nI (u + 1)) (lv' := [(7, .int (nI (u + 1))), (8, .ref (L 16 u)), (3, .int many), (2, .int z), (1, .int x), (0, .ref a0)]) hx hb dX5_go_601 hl (k := 1) rfl (nI_succ _).symm (by decide) rfl (fun ls hl => ?_)
        refine lv_goto (tgt := 491) hx hb dX5_go_604 (by decide) ?_
        exact ih (u + 1) (by omega) cv many hfin H locs hB hS ls (lv_sub hl [0, 2, 3, 4, 5] rfl)
set_option maxHeartbeats 4000000 in
set_option maxRecDepth 100000 in
/-- Told: go: the loop at 335 -/
theorem lkX5_goC (l : Launch) (D : va_G) (d : hs_Dm) (a0 w b : Nat) (cB : ClassId) (Lh L2 : hs_Lo) (Ah A : Nat → Prop) (N : Nat) (xs : Nat → Int32) (L : hs_Lo) (n : Nat → Nat) (c σ : hs_St)  (hN31 : N < 2 ^ 31) {p : Program} {e : Env} {s : State} {m : MethodId} {args : Array Value} {below : List Frame} {meth : Method} {c0 : Code} (P F R k dy : Nat) (σm : hs_St) (x z : Int32) (T : tm P F R n c σm k dy) (hP1 : 1 ≤ P) (hP7 : P ≤ 7) (hF7 : F ≤ 7) (h30 : (dy + 1) % 30 ≠ 0) (hdy : dy < 2 ^ 20) (hx : p.tables.exec = Jvm.exec) (hb : c0.code = cX5_go) (hr : meth.sig.returnType = (some .int)) (hts : ∀ w ∈ wsX5_go, w.before args s = true) (hown : s.vm.findClass RX5 = some m.cls) (hlocks : meth.locks = false) (hml : c0.maxLocals = 10) (hKK : tl_K D d w b cB Lh L2 A N xs s s.heap) (hH : tl_H w b Ah A s.heap.size) : ∀ (kk u : Nat), u + kk = F → ∀ (cv : hs_St) (many : Int32) (hfin : tm P F R n cv (sp_day σm P F x z).2 k (dy + 1) ∧ many = (sp_day σm P F x z).1 ∧ ∀ f, f < F → cv 16 f 6 = 5) (v1 : Nat) (f : Nat → Int32) (nv1 : tl_nw L n Ah v1) (hAv1 : A v1) (H : Heap) (locs : List Loc), tl_B D d a0 w b cB Lh Ah A L n cv σ H → va_S A s.heap H locs → va_at D vwCl (v1, .inl (d.1, F, .inl f)) H → ∀ ls : Array Slot, lv_has ls 10 [(7, .int (nI u)), (6, .ref v1), (3, .int many), (2, .int z), (1, .int x), (0, .ref a0)] → W p l e ({ frames := 2, cells := 1, slots := 8, locals := 60 } : Room) s m args below meth c0 H locs 1 8 (MQ below (va_Qi (fun r X => X.1 = L ∧ X.2.1 = n ∧ X.2.2.2 = σ ∧ r = (sp_day σm P F x z).1 ∧ tm P F R n X.2.2.1 (sp_day σm P F x z).2 k (dy + 1)) (fun X t => tl_Bx D d a0 w b cB Lh Ah A X t.heap) A) args s 1 8 A) (F0 m 335 ls []) := by
  intro kk
  induction kk with
  | zero =>
    intro u hu cv many hfin v1 f nv1 hAv1 H locs hB hS hv1 ls hl
    obtain ⟨⟨n1, n2, n3, n4, n5, n6, n7⟩, hk2, hd10, hd6, hpp, hff⟩ := id T
    have huN : u = F := by omega
    refine lv_iload hx hb dX5_go_335 (lv_at hl 0 rfl) ?_
    refine lv_aload hx hb dX5_go_337 (lv_at hl 1 rfl) ?_
    refine tl_nlen hx hb hKK.1 hv1 dX5_go_339 ?_
    refine lv_icmp_ge (tgt := 488) hx hb dX5_go_340 (by decide) (fun c_340 => ?_) (fun c_340 => ?_)
    · refine lv_iconst (v := 0) hx hb dX5_go_488 (by decide) ?_
      refine lv_istore (lv' := [(7, .int 0), (6, .ref v1), (3, .int many), (2, .int z), (1, .int x), (0, .ref a0)]) hx hb dX5_go_489 hl (by decide) rfl (fun ls hl => ?_)
      exact lkX5_goD l D d a0 w b cB Lh L2 Ah A N xs L n c σ hN31 P F R k dy σm x z T hP1 hP7 hF7 h30 hdy hx hb hr hts hown hlocks hml hKK hH F 0 (by omega) cv many hfin _ _ hB hS ls (lv_sub hl [0, 2, 3, 4, 5] rfl)
    · exact absurd (by rw [huN]; exact nI_le (Nat.le_refl _) (by omega)) c_340
  | succ kk ih =>
    intro u hu cv many hfin v1 f nv1 hAv1 H locs hB hS hv1 ls hl
    obtain ⟨⟨n1, n2, n3, n4, n5, n6, n7⟩, hk2, hd10, hd6, hpp, hff⟩ := id T
    have huN : u < F := by omega
    refine lv_iload hx hb dX5_go_335 (lv_at hl 0 rfl) ?_
    refine lv_aload hx hb dX5_go_337 (lv_at hl 1 rfl) ?_
    refine tl_nlen hx hb hKK.1 hv1 dX5_go_339 ?_
    refine lv_icmp_ge (tgt := 488) hx hb dX5_go_340 (by decide) (fun c_340 => ?_) (fun c_340 => ?_)
    · exact absurd c_340 (nI_ge huN (by omega))
    · refine lv_aload_n hx hb dX5_go_343 rfl (lv_at hl 5 rfl) ?_
      refine tl_get hx hb hts (by decide +kernel) hown hKK.1 hB 8 (by decide) (hts (.fieldLink RX5 34 "WaxrowLaw$Told" "figures" "[[I") (by decide +kernel)) rfl (v := .ref (L 6 0)) rfl dX5_go_344 ?_
      refine lv_iload hx hb dX5_go_347 (lv_at hl 0 rfl) ?_
      refine tl_aald hx hb hKK.2.1 hB 6 u (by decide) (by decide) (by rw [n6]; exact huN) (by omega) dX5_go_349 ?_
      refine lv_astore (lv' := [(8, .ref (L 16 u)), (7, .int (nI u)), (6, .ref v1), (3, .int many), (2, .int z), (1, .int x), (0, .ref a0)]) hx hb dX5_go_350 hl (by decide) rfl (fun ls hl => ?_)
      refine lv_aload hx hb dX5_go_352 (lv_at hl 0 rfl) ?_
      refine lv_bipush (v := 6) hx hb dX5_go_354 (by decide) ?_
      refine tl_iald hx hb hKK.1 hB 6 u (by decide) (by decide) (by rw [n6]; exact huN) (i := 6) (by unfold vp_in; decide) dX5_go_356 ?_
      rw [show (6 : Int32).toNatClampNeg = 6 from by decide]
      rw [hfin.2.2 u huN]
      refine lv_iconst (v := 4) hx hb dX5_go_357 (by decide) ?_
      refine lv_icmp_le (tgt := 364) hx hb dX5_go_358 (by decide) (fun c_358 => ?_) (fun c_358 => ?_)
      · exact absurd c_358 (by decide +kernel)
      · refine lv_goto (tgt := 482) hx hb dX5_go_361 (by decide) ?_
        refine lv_iinc (v := nI (u + 1)) (lv' := [(7, .int (nI (u + 1))), (8, .ref (L 16 u)), (6, .ref v1), (3, .int many), (2, .int z), (1, .int x), (0, .ref a0)]) hx hb dX5_go_482 hl (k := 1) rfl (nI_succ _).symm (by decide) rfl (fun ls hl => ?_)
        refine lv_goto (tgt := 335) hx hb dX5_go_485 (by decide) ?_
        exact ih (u + 1) (by omega) cv many hfin v1 f nv1 hAv1 H locs hB hS hv1 ls (lv_sub hl [0, 2, 3, 4, 5, 6] rfl)
set_option maxHeartbeats 4000000 in
set_option maxRecDepth 100000 in
/-- Told: go: the loop at 292 -/
theorem lkX5_goB (l : Launch) (D : va_G) (d : hs_Dm) (a0 w b : Nat) (cB : ClassId) (Lh L2 : hs_Lo) (Ah A : Nat → Prop) (N : Nat) (xs : Nat → Int32) (L : hs_Lo) (n : Nat → Nat) (c σ : hs_St)  (hN31 : N < 2 ^ 31) {p : Program} {e : Env} {s : State} {m : MethodId} {args : Array Value} {below : List Frame} {meth : Method} {c0 : Code} (P F R k dy : Nat) (σm : hs_St) (x z : Int32) (T : tm P F R n c σm k dy) (hP1 : 1 ≤ P) (hP7 : P ≤ 7) (hF7 : F ≤ 7) (h30 : (dy + 1) % 30 ≠ 0) (hdy : dy < 2 ^ 20) (hx : p.tables.exec = Jvm.exec) (hb : c0.code = cX5_go) (hr : meth.sig.returnType = (some .int)) (hts : ∀ w ∈ wsX5_go, w.before args s = true) (hown : s.vm.findClass RX5 = some m.cls) (hlocks : meth.locks = false) (hml : c0.maxLocals = 10) (hKK : tl_K D d w b cB Lh L2 A N xs s s.heap) (hH : tl_H w b Ah A s.heap.size) : ∀ (kk u : Nat), u + kk = F → ∀ (cv : hs_St) (many : Int32) (hfin : tm P F R n cv (sp_day σm P F x z).2 k (dy + 1) ∧ many = (sp_day σm P F x z).1 ∧ ∀ f, f < F → cv 16 f 6 = 5) (v1 : Nat) (f : Nat → Int32) (nv1 : tl_nw L n Ah v1) (hAv1 : A v1) (H : Heap) (locs : List Loc), tl_B D d a0 w b cB Lh Ah A L n cv σ H → va_S A s.heap H locs → va_at D vwCl (v1, .inl (d.1, F, .inl f)) H → ∀ ls : Array Slot, lv_has ls 10 [(7, .int (nI u)), (6, .ref v1), (5, .int 0), (3, .int many), (2, .int z), (1, .int x), (0, .ref a0)] → W p l e ({ frames := 2, cells := 1, slots := 8, locals := 60 } : Room) s m args below meth c0 H locs 1 8 (MQ below (va_Qi (fun r X => X.1 = L ∧ X.2.1 = n ∧ X.2.2.2 = σ ∧ r = (sp_day σm P F x z).1 ∧ tm P F R n X.2.2.1 (sp_day σm P F x z).2 k (dy + 1)) (fun X t => tl_Bx D d a0 w b cB Lh Ah A X t.heap) A) args s 1 8 A) (F0 m 292 ls []) := by
  intro kk
  induction kk with
  | zero =>
    intro u hu cv many hfin v1 f nv1 hAv1 H locs hB hS hv1 ls hl
    obtain ⟨⟨n1, n2, n3, n4, n5, n6, n7⟩, hk2, hd10, hd6, hpp, hff⟩ := id T
    have huN : u = F := by omega
    refine lv_iload hx hb dX5_go_292 (lv_at hl 0 rfl) ?_
    refine lv_aload hx hb dX5_go_294 (lv_at hl 1 rfl) ?_
    refine tl_nlen hx hb hKK.1 hv1 dX5_go_296 ?_
    refine lv_icmp_ge (tgt := 332) hx hb dX5_go_297 (by decide) (fun c_297 => ?_) (fun c_297 => ?_)
    · refine lv_iconst (v := 0) hx hb dX5_go_332 (by decide) ?_
      refine lv_istore (lv' := [(7, .int 0), (6, .ref v1), (5, .int 0), (3, .int many), (2, .int z), (1, .int x), (0, .ref a0)]) hx hb dX5_go_333 hl (by decide) rfl (fun ls hl => ?_)
      exact lkX5_goC l D d a0 w b cB Lh L2 Ah A N xs L n c σ hN31 P F R k dy σm x z T hP1 hP7 hF7 h30 hdy hx hb hr hts hown hlocks hml hKK hH F 0 (by omega) cv many hfin v1 f nv1 hAv1 _ _ hB hS hv1 ls (lv_sub hl [0, 1, 3, 4, 5, 6] rfl)
    · exact absurd (by rw [huN]; exact nI_le (Nat.le_refl _) (by omega)) c_297
  | succ kk ih =>
    intro u hu cv many hfin v1 f nv1 hAv1 H locs hB hS hv1 ls hl
    obtain ⟨⟨n1, n2, n3, n4, n5, n6, n7⟩, hk2, hd10, hd6, hpp, hff⟩ := id T
    have huN : u < F := by omega
    refine lv_iload hx hb dX5_go_292 (lv_at hl 0 rfl) ?_
    refine lv_aload hx hb dX5_go_294 (lv_at hl 1 rfl) ?_
    refine tl_nlen hx hb hKK.1 hv1 dX5_go_296 ?_
    refine lv_icmp_ge (tgt := 332) hx hb dX5_go_297 (by decide) (fun c_297 => ?_) (fun c_297 => ?_)
    · exact absurd c_297 (nI_ge huN (by omega))
    · refine lv_aload hx hb dX5_go_300 (lv_at hl 1 rfl) ?_
      refine lv_iload hx hb dX5_go_302 (lv_at hl 0 rfl) ?_
      refine lv_iload hx hb dX5_go_304 (lv_at hl 2 rfl) ?_
      refine lv_if_ne (tgt := 313) hx hb dX5_go_306 (by decide) (fun c_306 => ?_) (fun c_306 => ?_)
      · exact absurd (by decide +kernel) c_306
      · refine lv_iconst (v := 0) hx hb dX5_go_309 (by decide) ?_
        refine lv_goto (tgt := 325) hx hb dX5_go_310 (by decide) ?_
        refine tl_niast hx hb hKK.1 hB hS hv1 nv1 hAv1 (i := nI u) (x := 0) (vp_in_nI (show u < F from huN) (by omega)) dX5_go_325 (fun H locs hB hv1 hz hS => ?_)
        rw [show (nI u : Int32).toNatClampNeg = u from nI_clamp (by omega)] at hv1
        refine lv_iinc (v := nI (u + 1)) (lv' := [(7, .int (nI (u + 1))), (6, .ref v1), (5, .int 0), (3, .int many), (2, .int z), (1, .int x), (0, .ref a0)]) hx hb dX5_go_326 hl (k := 0) rfl (nI_succ _).symm (by decide) rfl (fun ls hl => ?_)
        refine lv_goto (tgt := 292) hx hb dX5_go_329 (by decide) ?_
        exact ih (u + 1) (by omega) cv many hfin v1 (upd f u (0 : Int32)) nv1 hAv1 H locs hB hS hv1 ls (lv_sub hl [0, 1, 2, 3, 4, 5, 6] rfl)
set_option maxHeartbeats 4000000 in
set_option maxRecDepth 100000 in
/-- Told: go: the loop at 126 -/
theorem lkX5_goA (l : Launch) (D : va_G) (d : hs_Dm) (a0 w b : Nat) (cB : ClassId) (Lh L2 : hs_Lo) (Ah A : Nat → Prop) (N : Nat) (xs : Nat → Int32) (L : hs_Lo) (n : Nat → Nat) (c σ : hs_St)  (hN31 : N < 2 ^ 31) {p : Program} {e : Env} {s : State} {m : MethodId} {args : Array Value} {below : List Frame} {meth : Method} {c0 : Code} (P F R k dy : Nat) (σm : hs_St) (x z : Int32) (T : tm P F R n c σm k dy) (hP1 : 1 ≤ P) (hP7 : P ≤ 7) (hF7 : F ≤ 7) (h30 : (dy + 1) % 30 ≠ 0) (hdy : dy < 2 ^ 20) (hx : p.tables.exec = Jvm.exec) (hb : c0.code = cX5_go) (hr : meth.sig.returnType = (some .int)) (hts : ∀ w ∈ wsX5_go, w.before args s = true) (hown : s.vm.findClass RX5 = some m.cls) (hlocks : meth.locks = false) (hml : c0.maxLocals = 10) (hKK : tl_K D d w b cB Lh L2 A N xs s s.heap) (hH : tl_H w b Ah A s.heap.size) : ∀ (kk u : Nat), u + kk = F → ∀ (cv : hs_St) (many : Int32) (hA : tl_gA (hs_sg c 0 0 10 (nI (dy + 1))) P F cv (sp_dawn σm P) u many) (H : Heap) (locs : List Loc), tl_B D d a0 w b cB Lh Ah A L n cv σ H → va_S A s.heap H locs → ∀ ls : Array Slot, lv_has ls 10 [(6, .int (nI u)), (5, .int (nI F)), (4, .ref (L 6 0)), (3, .int many), (2, .int z), (1, .int x), (0, .ref a0)] → W p l e ({ frames := 2, cells := 1, slots := 8, locals := 60 } : Room) s m args below meth c0 H locs 0 0 (MQ below (va_Qi (fun r X => X.1 = L ∧ X.2.1 = n ∧ X.2.2.2 = σ ∧ r = (sp_day σm P F x z).1 ∧ tm P F R n X.2.2.1 (sp_day σm P F x z).2 k (dy + 1)) (fun X t => tl_Bx D d a0 w b cB Lh Ah A X t.heap) A) args s 1 8 A) (F0 m 126 ls []) := by
  intro kk
  induction kk with
  | zero =>
    intro u hu cv many hA H locs hB hS ls hl
    obtain ⟨⟨n1, n2, n3, n4, n5, n6, n7⟩, hk2, hd10, hd6, hpp, hff⟩ := id T
    have huN : u = F := by omega
    have hAF : tl_gA (hs_sg c 0 0 10 (nI (dy + 1))) P F cv (sp_dawn σm P) F many := by
      have h_ := hA
      rw [huN] at h_
      exact h_
    refine lv_iload hx hb dX5_go_126 (lv_at hl 0 rfl) ?_
    refine lv_iload hx hb dX5_go_128 (lv_at hl 1 rfl) ?_
    refine lv_icmp_ge (tgt := 232) hx hb dX5_go_130 (by decide) (fun c_130 => ?_) (fun c_130 => ?_)
    · refine lv_iload_n hx hb dX5_go_232 rfl (lv_at hl 5 rfl) ?_
      refine lv_bipush (v := 20) hx hb dX5_go_233 (by decide) ?_
      refine lv_aload_n hx hb dX5_go_235 rfl (lv_at hl 6 rfl) ?_
      refine tl_get hx hb hts (by decide +kernel) hown hKK.1 hB 11 (by decide) (hts (.fieldLink RX5 40 "WaxrowLaw$Told" "price" "I") (by decide +kernel)) rfl (v := .int (cv 0 0 11)) rfl dX5_go_236 ?_
      refine lv_isub hx hb dX5_go_239 ?_
      refine lv_imul hx hb dX5_go_240 ?_
      refine lv_bipush (v := 20) hx hb dX5_go_241 (by decide) ?_
      refine lv_idiv hx hb dX5_go_243 (by decide) ?_
      refine lv_istore (lv' := [(4, .int ((x * (20 - (cv 0 0 11))) / 20)), (6, .int (nI u)), (5, .int (nI F)), (3, .int many), (2, .int z), (1, .int x), (0, .ref a0)]) hx hb dX5_go_244 hl (by decide) rfl (fun ls hl => ?_)
      refine lv_aload_n hx hb dX5_go_246 rfl (lv_at hl 6 rfl) ?_
      refine lv_dup hx hb dX5_go_247 rfl ?_
      refine tl_get hx hb hts (by decide +kernel) hown hKK.1 hB 14 (by decide) (hts (.fieldLink RX5 158 "WaxrowLaw$Told" "came" "I") (by decide +kernel)) rfl (v := .int (cv 0 0 14)) rfl dX5_go_248 ?_
      refine lv_iload hx hb dX5_go_251 (lv_at hl 0 rfl) ?_
      refine lv_iadd hx hb dX5_go_253 ?_
      refine tl_puti hx hb hts (by decide +kernel) hown hKK.1 hB hS 14 (by decide) (hts (.fieldLink RX5 158 "WaxrowLaw$Told" "came" "I") (by decide +kernel)) rfl rfl ((cv 0 0 14) + ((x * (20 - (cv 0 0 11))) / 20)) (by decide +kernel) rfl dX5_go_254 (fun H locs hB hS hz hq => ?_)
      have hB : tl_B D d a0 w b cB Lh Ah A L n (hs_sg cv 0 0 14 ((cv 0 0 14) + ((x * (20 - (cv 0 0 11))) / 20))) σ H := hB
      refine lv_aload_n hx hb dX5_go_257 rfl (lv_at hl 6 rfl) ?_
      refine lv_dup hx hb dX5_go_258 rfl ?_
      refine tl_get hx hb hts (by decide +kernel) hown hKK.1 hB 12 (by decide) (hts (.fieldLink RX5 44 "WaxrowLaw$Told" "money" "I") (by decide +kernel)) rfl (v := .int ((hs_sg cv 0 0 14 ((cv 0 0 14) + ((x * (20 - (cv 0 0 11))) / 20))) 0 0 12)) rfl dX5_go_259 ?_
      refine lv_iload hx hb dX5_go_262 (lv_at hl 0 rfl) ?_
      refine lv_aload_n hx hb dX5_go_264 rfl (lv_at hl 6 rfl) ?_
      refine tl_get hx hb hts (by decide +kernel) hown hKK.1 hB 11 (by decide) (hts (.fieldLink RX5 40 "WaxrowLaw$Told" "price" "I") (by decide +kernel)) rfl (v := .int ((hs_sg cv 0 0 14 ((cv 0 0 14) + ((x * (20 - (cv 0 0 11))) / 20))) 0 0 11)) rfl dX5_go_265 ?_
      refine lv_imul hx hb dX5_go_268 ?_
      refine lv_iadd hx hb dX5_go_269 ?_
      refine tl_puti hx hb hts (by decide +kernel) hown hKK.1 hB hS 12 (by decide) (hts (.fieldLink RX5 44 "WaxrowLaw$Told" "money" "I") (by decide +kernel)) rfl rfl (((hs_sg cv 0 0 14 ((cv 0 0 14) + ((x * (20 - (cv 0 0 11))) / 20))) 0 0 12) + (((x * (20 - (cv 0 0 11))) / 20) * ((hs_sg cv 0 0 14 ((cv 0 0 14) + ((x * (20 - (cv 0 0 11))) / 20))) 0 0 11))) (by decide +kernel) rfl dX5_go_270 (fun H locs hB hS hz hq => ?_)
      have hB : tl_B D d a0 w b cB Lh Ah A L n (hs_sg (hs_sg cv 0 0 14 ((cv 0 0 14) + ((x * (20 - (cv 0 0 11))) / 20))) 0 0 12 (((hs_sg cv 0 0 14 ((cv 0 0 14) + ((x * (20 - (cv 0 0 11))) / 20))) 0 0 12) + (((x * (20 - (cv 0 0 11))) / 20) * ((hs_sg cv 0 0 14 ((cv 0 0 14) + ((x * (20 - (cv 0 0 11))) / 20))) 0 0 11)))) σ H := hB
      refine lv_aload_n hx hb dX5_go_273 rfl (lv_at hl 6 rfl) ?_
      refine lv_iconst (v := (-1)) hx hb dX5_go_274 (by decide) ?_
      refine tl_calli (As := [.int (-1)]) ⟨hx, hb, hml, hown, hts⟩ (kX5_allDraws l D d a0 w b cB Lh L2 Ah A N xs L n (hs_sg (hs_sg cv 0 0 14 ((cv 0 0 14) + ((x * (20 - (cv 0 0 11))) / 20))) 0 0 12 (((hs_sg cv 0 0 14 ((cv 0 0 14) + ((x * (20 - (cv 0 0 11))) / 20))) 0 0 12) + (((x * (20 - (cv 0 0 11))) / 20) * ((hs_sg cv 0 0 14 ((cv 0 0 14) + ((x * (20 - (cv 0 0 11))) / 20))) 0 0 11)))) σ H.size (hH.up hS.1) hN31 F n6 (by omega) (fun f hf => (hAF.2.1 f hf).1)) (cwV 1 hts gX5_go_X5_allDraws rfl rfl rfl (by decide +kernel) ⟨Nat.le_of_ble_eq_true rfl, Nat.le_of_ble_eq_true rfl⟩) hKK hH hB hS rfl hl.1 (Nat.le_of_ble_eq_true rfl) dX5_go_275 ⟨Nat.le_of_ble_eq_true rfl, Nat.le_of_ble_eq_true rfl⟩ rfl (fun r_ X_ H locs hp hB hz hS => ?_)
      obtain ⟨rfl, rfl⟩ := hp
      have hB : tl_B D d a0 w b cB Lh Ah A L n (hs_sg (hs_sg cv 0 0 14 ((cv 0 0 14) + ((x * (20 - (cv 0 0 11))) / 20))) 0 0 12 (((hs_sg cv 0 0 14 ((cv 0 0 14) + ((x * (20 - (cv 0 0 11))) / 20))) 0 0 12) + (((x * (20 - (cv 0 0 11))) / 20) * ((hs_sg cv 0 0 14 ((cv 0 0 14) + ((x * (20 - (cv 0 0 11))) / 20))) 0 0 11)))) σ H := hB
      refine lv_istore (lv' := [(5, .int 0), (4, .int ((x * (20 - (cv 0 0 11))) / 20)), (6, .int (nI u)), (3, .int many), (2, .int z), (1, .int x), (0, .ref a0)]) hx hb dX5_go_278 hl (by decide) rfl (fun ls hl => ?_)
      refine lv_aload_n hx hb dX5_go_280 rfl (lv_at hl 6 rfl) ?_
      refine tl_get hx hb hts (by decide +kernel) hown hKK.1 hB 8 (by decide) (hts (.fieldLink RX5 34 "WaxrowLaw$Told" "figures" "[[I") (by decide +kernel)) rfl (v := .ref (L 6 0)) rfl dX5_go_281 ?_
      refine tl_len hx hb hKK.2.1 hB 6 (by decide) (by decide) dX5_go_284 ?_
      rw [show n 6 = F from n6]
      refine tl_newa hx hb (hts (.arrayClass .int) (by decide +kernel)) hKK.1 hH.1 hB hS (nI_pos (by omega)) (N' := F) (nI_clamp (by omega)) (by omega) (Nat.le_of_ble_eq_true rfl) (by show 0 + F ≤ 8; omega) dX5_go_285 (fun H v1 hB nv1 hAv1 hv1 hz hS => ?_)
      refine lv_astore (lv' := [(6, .ref v1), (5, .int 0), (4, .int ((x * (20 - (cv 0 0 11))) / 20)), (3, .int many), (2, .int z), (1, .int x), (0, .ref a0)]) hx hb dX5_go_287 hl (by decide) rfl (fun ls hl => ?_)
      refine lv_iconst (v := 0) hx hb dX5_go_289 (by decide) ?_
      refine lv_istore (lv' := [(7, .int 0), (6, .ref v1), (5, .int 0), (4, .int ((x * (20 - (cv 0 0 11))) / 20)), (3, .int many), (2, .int z), (1, .int x), (0, .ref a0)]) hx hb dX5_go_290 hl (by decide) rfl (fun ls hl => ?_)
      refine W.widen (k := 1) (n := 8) (Nat.le_refl _) (by omega) ?_
      exact lkX5_goB l D d a0 w b cB Lh L2 Ah A N xs L n c σ hN31 P F R k dy σm x z T hP1 hP7 hF7 h30 hdy hx hb hr hts hown hlocks hml hKK hH F 0 (by omega) (hs_sg (hs_sg cv 0 0 14 ((cv 0 0 14) + ((x * (20 - (cv 0 0 11))) / 20))) 0 0 12 (((hs_sg cv 0 0 14 ((cv 0 0 14) + ((x * (20 - (cv 0 0 11))) / 20))) 0 0 12) + (((x * (20 - (cv 0 0 11))) / 20) * ((hs_sg cv 0 0 14 ((cv 0 0 14) + ((x * (20 - (cv 0 0 11))) / 20))) 0 0 11)))) many (tm_day T h30 (by omega) x z hAF (fun a i e_ h_ => by simp only [hs_sg]; repeat rw [if_neg (by omega)])) v1 (fun _ => 0) nv1 hAv1 _ _ hB hS hv1 ls (lv_sub hl [0, 1, 2, 4, 5, 6, 7] rfl)
    · exact absurd (by rw [huN]; exact nI_le (Nat.le_refl _) (by omega)) c_130
  | succ kk ih =>
    intro u hu cv many hA H locs hB hS ls hl
    obtain ⟨⟨n1, n2, n3, n4, n5, n6, n7⟩, hk2, hd10, hd6, hpp, hff⟩ := id T
    have huN : u < F := by omega
    obtain ⟨k1, k2, k3⟩ := id hA
    obtain ⟨t1, t2, ⟨q, t3, t4, t5, t6⟩, t7⟩ := k2 u huN
    rcases t7 with ⟨j, w_, g, hr9, hj, hw9, hg9, s4, c3, c2⟩ | ⟨s2, s4, c3, W, hW, hW9, c2⟩
    · have hm := rd_max j hj
      refine lv_iload hx hb dX5_go_126 (lv_at hl 0 rfl) ?_
      refine lv_iload hx hb dX5_go_128 (lv_at hl 1 rfl) ?_
      refine lv_icmp_ge (tgt := 232) hx hb dX5_go_130 (by decide) (fun c_130 => ?_) (fun c_130 => ?_)
      · exact absurd c_130 (nI_ge huN (by omega))
      · refine lv_aload hx hb dX5_go_133 (lv_at hl 2 rfl) ?_
        refine lv_iload hx hb dX5_go_135 (lv_at hl 0 rfl) ?_
        refine tl_aald hx hb hKK.2.1 hB 6 u (by decide) (by decide) (by rw [n6]; exact huN) (by omega) dX5_go_137 ?_
        refine lv_astore (lv' := [(7, .ref (L 16 u)), (6, .int (nI u)), (5, .int (nI F)), (4, .ref (L 6 0)), (3, .int many), (2, .int z), (1, .int x), (0, .ref a0)]) hx hb dX5_go_138 hl (by decide) rfl (fun ls hl => ?_)
        refine lv_aload hx hb dX5_go_140 (lv_at hl 0 rfl) ?_
        refine lv_iconst (v := 2) hx hb dX5_go_142 (by decide) ?_
        refine tl_iald hx hb hKK.1 hB 6 u (by decide) (by decide) (by rw [n6]; exact huN) (i := 2) (by unfold vp_in; decide) dX5_go_143 ?_
        rw [show (2 : Int32).toNatClampNeg = 2 from by decide]
        rw [show cv 16 u 2 = nI (rd_S j + w_) from c2]
        refine lv_bipush (v := 36) hx hb dX5_go_144 (by decide) ?_
        refine lv_icmp_ge (tgt := 226) hx hb dX5_go_146 (by decide) (fun c_146 => ?_) (fun c_146 => ?_)
        · exact absurd c_146 (nI_ge (b := 36) (by omega) (by decide))
        · refine lv_aload hx hb dX5_go_149 (lv_at hl 0 rfl) ?_
          refine lv_bipush (v := 6) hx hb dX5_go_151 (by decide) ?_
          refine tl_iald hx hb hKK.1 hB 6 u (by decide) (by decide) (by rw [n6]; exact huN) (i := 6) (by unfold vp_in; decide) dX5_go_153 ?_
          rw [show (6 : Int32).toNatClampNeg = 6 from by decide]
          rw [show cv 16 u 6 = 5 from t1]
          refine lv_bipush (v := 7) hx hb dX5_go_154 (by decide) ?_
          refine lv_icmp_ne (tgt := 162) hx hb dX5_go_156 (by decide) (fun c_156 => ?_) (fun c_156 => ?_)
          · refine lv_aload hx hb dX5_go_162 (lv_at hl 0 rfl) ?_
            refine lv_iconst (v := 2) hx hb dX5_go_164 (by decide) ?_
            refine tl_iald hx hb hKK.1 hB 6 u (by decide) (by decide) (by rw [n6]; exact huN) (i := 2) (by unfold vp_in; decide) dX5_go_165 ?_
            rw [show (2 : Int32).toNatClampNeg = 2 from by decide]
            refine lv_iconst (v := 4) hx hb dX5_go_166 (by decide) ?_
            refine lv_icmp_ge (tgt := 195) hx hb dX5_go_167 (by decide) (fun c_167 => ?_) (fun c_167 => ?_)
            · refine lv_aload hx hb dX5_go_195 (lv_at hl 0 rfl) ?_
              refine lv_iconst (v := 2) hx hb dX5_go_197 (by decide) ?_
              refine lv_dup2_11 hx hb dX5_go_198 rfl rfl ?_
              refine tl_iald hx hb hKK.1 hB 6 u (by decide) (by decide) (by rw [n6]; exact huN) (i := 2) (by unfold vp_in; decide) dX5_go_199 ?_
              rw [show (2 : Int32).toNatClampNeg = 2 from by decide]
              rw [show cv 16 u 2 = nI (rd_S j + w_) from (by first | exact c2 | (simp only [hs_sg]; rw [if_neg (by omega)]; exact c2))]
              refine lv_aload hx hb dX5_go_200 (lv_at hl 0 rfl) ?_
              refine lv_iconst (v := 3) hx hb dX5_go_202 (by decide) ?_
              refine tl_iald hx hb hKK.1 hB 6 u (by decide) (by decide) (by rw [n6]; exact huN) (i := 3) (by unfold vp_in; decide) dX5_go_203 ?_
              rw [show (3 : Int32).toNatClampNeg = 3 from by decide]
              rw [show cv 16 u 3 = nI g from (by first | exact c3 | (simp only [hs_sg]; rw [if_neg (by omega)]; exact c3))]
              refine lv_iadd hx hb dX5_go_204 ?_
              rw [nI_add]
              refine tl_iast hx hb hKK.1 hB hS 6 u (by decide) (by decide) (by rw [n6]; exact huN) (i := 2) (x := nI (rd_S j + w_ + g)) (by unfold vp_in; decide) dX5_go_205 (fun H locs hB hS hz => ?_)
              rw [show (2 : Int32).toNatClampNeg = 2 from by decide] at hB
              have hB : tl_B D d a0 w b cB Lh Ah A L n (hs_sg cv 16 u 2 (nI (rd_S j + w_ + g))) σ H := hB
              refine lv_aload hx hb dX5_go_206 (lv_at hl 0 rfl) ?_
              refine lv_iconst (v := 2) hx hb dX5_go_208 (by decide) ?_
              refine tl_iald hx hb hKK.1 hB 6 u (by decide) (by decide) (by rw [n6]; exact huN) (i := 2) (by unfold vp_in; decide) dX5_go_209 ?_
              rw [show (2 : Int32).toNatClampNeg = 2 from by decide]
              rw [show (hs_sg cv 16 u 2 (nI (rd_S j + w_ + g))) 16 u 2 = nI (rd_S j + w_ + g) from (by simp [hs_sg])]
              refine lv_bipush (v := 36) hx hb dX5_go_210 (by decide) ?_
              refine lv_icmp_ge (tgt := 218) hx hb dX5_go_212 (by decide) (fun c_212 => ?_) (fun c_212 => ?_)
              · refine lv_aload hx hb dX5_go_218 (lv_at hl 0 rfl) ?_
                refine lv_iconst (v := 3) hx hb dX5_go_220 (by decide) ?_
                refine lv_iconst (v := 0) hx hb dX5_go_221 (by decide) ?_
                refine tl_iast hx hb hKK.1 hB hS 6 u (by decide) (by decide) (by rw [n6]; exact huN) (i := 3) (x := 0) (by unfold vp_in; decide) dX5_go_222 (fun H locs hB hS hz => ?_)
                rw [show (3 : Int32).toNatClampNeg = 3 from by decide] at hB
                have hB : tl_B D d a0 w b cB Lh Ah A L n (hs_sg (hs_sg cv 16 u 2 (nI (rd_S j + w_ + g))) 16 u 3 (0 : Int32)) σ H := hB
                refine lv_iinc (v := many + 1) (lv' := [(3, .int (many + 1)), (7, .ref (L 16 u)), (6, .int (nI u)), (5, .int (nI F)), (4, .ref (L 6 0)), (2, .int z), (1, .int x), (0, .ref a0)]) hx hb dX5_go_223 hl (k := 4) rfl rfl (by decide) rfl (fun ls hl => ?_)
                refine lv_iinc (v := nI (u + 1)) (lv' := [(6, .int (nI (u + 1))), (3, .int (many + 1)), (7, .ref (L 16 u)), (5, .int (nI F)), (4, .ref (L 6 0)), (2, .int z), (1, .int x), (0, .ref a0)]) hx hb dX5_go_226 hl (k := 2) rfl (nI_succ _).symm (by decide) rfl (fun ls hl => ?_)
                refine lv_goto (tgt := 126) hx hb dX5_go_229 (by decide) ?_
                exact ih (u + 1) (by omega) (hs_sg (hs_sg cv 16 u 2 (nI (rd_S j + w_ + g))) 16 u 3 (0 : Int32)) (many + 1) (tl_gA_step hA huN hr9 hj hw9 hg9 s4 (fun a i e_ h_ => by simp only [hs_sg]; repeat rw [if_neg (by omega)]) (by simp [hs_sg]) (Or.inr ⟨Nat.le_of_not_lt fun z_ => nI_ge (b := 36) z_ (by decide) c_212, by simp [hs_sg], rfl⟩)) H locs hB hS ls (lv_sub hl [0, 3, 4, 1, 5, 6, 7] rfl)
              · refine lv_goto (tgt := 226) hx hb dX5_go_215 (by decide) ?_
                refine lv_iinc (v := nI (u + 1)) (lv' := [(6, .int (nI (u + 1))), (7, .ref (L 16 u)), (5, .int (nI F)), (4, .ref (L 6 0)), (3, .int many), (2, .int z), (1, .int x), (0, .ref a0)]) hx hb dX5_go_226 hl (k := 1) rfl (nI_succ _).symm (by decide) rfl (fun ls hl => ?_)
                refine lv_goto (tgt := 126) hx hb dX5_go_229 (by decide) ?_
                exact ih (u + 1) (by omega) (hs_sg cv 16 u 2 (nI (rd_S j + w_ + g))) many (tl_gA_step hA huN hr9 hj hw9 hg9 s4 (fun a i e_ h_ => by simp only [hs_sg]; repeat rw [if_neg (by omega)]) (by simp [hs_sg]) (Or.inl ⟨Nat.lt_of_not_le fun z_ => c_212 (nI_le (a := 36) z_ (by omega)), by simp [hs_sg, c3], rfl⟩)) H locs hB hS ls (lv_sub hl [0, 2, 3, 4, 5, 6, 7] rfl)
            · refine lv_aload hx hb dX5_go_170 (lv_at hl 0 rfl) ?_
              refine lv_iconst (v := 2) hx hb dX5_go_172 (by decide) ?_
              refine tl_iald hx hb hKK.1 hB 6 u (by decide) (by decide) (by rw [n6]; exact huN) (i := 2) (by unfold vp_in; decide) dX5_go_173 ?_
              rw [show (2 : Int32).toNatClampNeg = 2 from by decide]
              rw [show cv 16 u 2 = nI (rd_S j + w_) from c2]
              refine lv_aload hx hb dX5_go_174 (lv_at hl 0 rfl) ?_
              refine lv_iconst (v := 3) hx hb dX5_go_176 (by decide) ?_
              refine tl_iald hx hb hKK.1 hB 6 u (by decide) (by decide) (by rw [n6]; exact huN) (i := 3) (by unfold vp_in; decide) dX5_go_177 ?_
              rw [show (3 : Int32).toNatClampNeg = 3 from by decide]
              rw [show cv 16 u 3 = nI g from c3]
              refine lv_iadd hx hb dX5_go_178 ?_
              rw [nI_add]
              refine lv_iconst (v := 4) hx hb dX5_go_179 (by decide) ?_
              refine lv_icmp_lt (tgt := 195) hx hb dX5_go_180 (by decide) (fun c_180 => ?_) (fun c_180 => ?_)
              · refine lv_aload hx hb dX5_go_195 (lv_at hl 0 rfl) ?_
                refine lv_iconst (v := 2) hx hb dX5_go_197 (by decide) ?_
                refine lv_dup2_11 hx hb dX5_go_198 rfl rfl ?_
                refine tl_iald hx hb hKK.1 hB 6 u (by decide) (by decide) (by rw [n6]; exact huN) (i := 2) (by unfold vp_in; decide) dX5_go_199 ?_
                rw [show (2 : Int32).toNatClampNeg = 2 from by decide]
                rw [show cv 16 u 2 = nI (rd_S j + w_) from (by first | exact c2 | (simp only [hs_sg]; rw [if_neg (by omega)]; exact c2))]
                refine lv_aload hx hb dX5_go_200 (lv_at hl 0 rfl) ?_
                refine lv_iconst (v := 3) hx hb dX5_go_202 (by decide) ?_
                refine tl_iald hx hb hKK.1 hB 6 u (by decide) (by decide) (by rw [n6]; exact huN) (i := 3) (by unfold vp_in; decide) dX5_go_203 ?_
                rw [show (3 : Int32).toNatClampNeg = 3 from by decide]
                rw [show cv 16 u 3 = nI g from (by first | exact c3 | (simp only [hs_sg]; rw [if_neg (by omega)]; exact c3))]
                refine lv_iadd hx hb dX5_go_204 ?_
                rw [nI_add]
                refine tl_iast hx hb hKK.1 hB hS 6 u (by decide) (by decide) (by rw [n6]; exact huN) (i := 2) (x := nI (rd_S j + w_ + g)) (by unfold vp_in; decide) dX5_go_205 (fun H locs hB hS hz => ?_)
                rw [show (2 : Int32).toNatClampNeg = 2 from by decide] at hB
                have hB : tl_B D d a0 w b cB Lh Ah A L n (hs_sg cv 16 u 2 (nI (rd_S j + w_ + g))) σ H := hB
                refine lv_aload hx hb dX5_go_206 (lv_at hl 0 rfl) ?_
                refine lv_iconst (v := 2) hx hb dX5_go_208 (by decide) ?_
                refine tl_iald hx hb hKK.1 hB 6 u (by decide) (by decide) (by rw [n6]; exact huN) (i := 2) (by unfold vp_in; decide) dX5_go_209 ?_
                rw [show (2 : Int32).toNatClampNeg = 2 from by decide]
                rw [show (hs_sg cv 16 u 2 (nI (rd_S j + w_ + g))) 16 u 2 = nI (rd_S j + w_ + g) from (by simp [hs_sg])]
                refine lv_bipush (v := 36) hx hb dX5_go_210 (by decide) ?_
                refine lv_icmp_ge (tgt := 218) hx hb dX5_go_212 (by decide) (fun c_212 => ?_) (fun c_212 => ?_)
                · refine lv_aload hx hb dX5_go_218 (lv_at hl 0 rfl) ?_
                  refine lv_iconst (v := 3) hx hb dX5_go_220 (by decide) ?_
                  refine lv_iconst (v := 0) hx hb dX5_go_221 (by decide) ?_
                  refine tl_iast hx hb hKK.1 hB hS 6 u (by decide) (by decide) (by rw [n6]; exact huN) (i := 3) (x := 0) (by unfold vp_in; decide) dX5_go_222 (fun H locs hB hS hz => ?_)
                  rw [show (3 : Int32).toNatClampNeg = 3 from by decide] at hB
                  have hB : tl_B D d a0 w b cB Lh Ah A L n (hs_sg (hs_sg cv 16 u 2 (nI (rd_S j + w_ + g))) 16 u 3 (0 : Int32)) σ H := hB
                  refine lv_iinc (v := many + 1) (lv' := [(3, .int (many + 1)), (7, .ref (L 16 u)), (6, .int (nI u)), (5, .int (nI F)), (4, .ref (L 6 0)), (2, .int z), (1, .int x), (0, .ref a0)]) hx hb dX5_go_223 hl (k := 4) rfl rfl (by decide) rfl (fun ls hl => ?_)
                  refine lv_iinc (v := nI (u + 1)) (lv' := [(6, .int (nI (u + 1))), (3, .int (many + 1)), (7, .ref (L 16 u)), (5, .int (nI F)), (4, .ref (L 6 0)), (2, .int z), (1, .int x), (0, .ref a0)]) hx hb dX5_go_226 hl (k := 2) rfl (nI_succ _).symm (by decide) rfl (fun ls hl => ?_)
                  refine lv_goto (tgt := 126) hx hb dX5_go_229 (by decide) ?_
                  exact ih (u + 1) (by omega) (hs_sg (hs_sg cv 16 u 2 (nI (rd_S j + w_ + g))) 16 u 3 (0 : Int32)) (many + 1) (tl_gA_step hA huN hr9 hj hw9 hg9 s4 (fun a i e_ h_ => by simp only [hs_sg]; repeat rw [if_neg (by omega)]) (by simp [hs_sg]) (Or.inr ⟨Nat.le_of_not_lt fun z_ => nI_ge (b := 36) z_ (by decide) c_212, by simp [hs_sg], rfl⟩)) H locs hB hS ls (lv_sub hl [0, 3, 4, 1, 5, 6, 7] rfl)
                · refine lv_goto (tgt := 226) hx hb dX5_go_215 (by decide) ?_
                  refine lv_iinc (v := nI (u + 1)) (lv' := [(6, .int (nI (u + 1))), (7, .ref (L 16 u)), (5, .int (nI F)), (4, .ref (L 6 0)), (3, .int many), (2, .int z), (1, .int x), (0, .ref a0)]) hx hb dX5_go_226 hl (k := 1) rfl (nI_succ _).symm (by decide) rfl (fun ls hl => ?_)
                  refine lv_goto (tgt := 126) hx hb dX5_go_229 (by decide) ?_
                  exact ih (u + 1) (by omega) (hs_sg cv 16 u 2 (nI (rd_S j + w_ + g))) many (tl_gA_step hA huN hr9 hj hw9 hg9 s4 (fun a i e_ h_ => by simp only [hs_sg]; repeat rw [if_neg (by omega)]) (by simp [hs_sg]) (Or.inl ⟨Nat.lt_of_not_le fun z_ => c_212 (nI_le (a := 36) z_ (by omega)), by simp [hs_sg, c3], rfl⟩)) H locs hB hS ls (lv_sub hl [0, 2, 3, 4, 5, 6, 7] rfl)
              · refine lv_aload hx hb dX5_go_183 (lv_at hl 0 rfl) ?_
                refine lv_iconst (v := 4) hx hb dX5_go_185 (by decide) ?_
                refine lv_aload_n hx hb dX5_go_186 rfl (lv_at hl 7 rfl) ?_
                refine lv_aload hx hb dX5_go_187 (lv_at hl 0 rfl) ?_
                refine lv_iconst (v := 0) hx hb dX5_go_189 (by decide) ?_
                refine tl_iald hx hb hKK.1 hB 6 u (by decide) (by decide) (by rw [n6]; exact huN) (i := 0) (by unfold vp_in; decide) dX5_go_190 ?_
                rw [show (0 : Int32).toNatClampNeg = 0 from by decide]
                rw [show cv 16 u 0 = nI q from t4]
                refine tl_calli (As := [.int (nI q)]) ⟨hx, hb, hml, hown, hts⟩ (kX5_doubt l D d a0 w b cB Lh L2 Ah A N xs L n cv σ H.size (hH.up hS.1) hN31 q ⟨by rw [n4]; exact t3, by rw [n5]; exact t3⟩ (by omega)) (cwV 1 hts gX5_go_X5_doubt rfl rfl rfl (by decide +kernel) ⟨Nat.le_of_ble_eq_true rfl, Nat.le_of_ble_eq_true rfl⟩) hKK hH hB hS rfl hl.1 (Nat.le_of_ble_eq_true rfl) dX5_go_191 ⟨Nat.le_of_ble_eq_true rfl, Nat.le_of_ble_eq_true rfl⟩ rfl (fun r_ X_ H locs hp hB hz hS => ?_)
                subst hp
                have hB : tl_B D d a0 w b cB Lh Ah A L n cv σ H := hB
                refine tl_iast hx hb hKK.1 hB hS 6 u (by decide) (by decide) (by rw [n6]; exact huN) (i := 4) (x := r_) (by unfold vp_in; decide) dX5_go_194 (fun H locs hB hS hz => ?_)
                rw [show (4 : Int32).toNatClampNeg = 4 from by decide] at hB
                have hB : tl_B D d a0 w b cB Lh Ah A L n (hs_sg cv 16 u 4 r_) σ H := hB
                refine lv_aload hx hb dX5_go_195 (lv_at hl 0 rfl) ?_
                refine lv_iconst (v := 2) hx hb dX5_go_197 (by decide) ?_
                refine lv_dup2_11 hx hb dX5_go_198 rfl rfl ?_
                refine tl_iald hx hb hKK.1 hB 6 u (by decide) (by decide) (by rw [n6]; exact huN) (i := 2) (by unfold vp_in; decide) dX5_go_199 ?_
                rw [show (2 : Int32).toNatClampNeg = 2 from by decide]
                rw [show (hs_sg cv 16 u 4 r_) 16 u 2 = nI (rd_S j + w_) from (by first | exact c2 | (simp only [hs_sg]; rw [if_neg (by omega)]; exact c2))]
                refine lv_aload hx hb dX5_go_200 (lv_at hl 0 rfl) ?_
                refine lv_iconst (v := 3) hx hb dX5_go_202 (by decide) ?_
                refine tl_iald hx hb hKK.1 hB 6 u (by decide) (by decide) (by rw [n6]; exact huN) (i := 3) (by unfold vp_in; decide) dX5_go_203 ?_
                rw [show (3 : Int32).toNatClampNeg = 3 from by decide]
                rw [show (hs_sg cv 16 u 4 r_) 16 u 3 = nI g from (by first | exact c3 | (simp only [hs_sg]; rw [if_neg (by omega)]; exact c3))]
                refine lv_iadd hx hb dX5_go_204 ?_
                rw [nI_add]
                refine tl_iast hx hb hKK.1 hB hS 6 u (by decide) (by decide) (by rw [n6]; exact huN) (i := 2) (x := nI (rd_S j + w_ + g)) (by unfold vp_in; decide) dX5_go_205 (fun H locs hB hS hz => ?_)
                rw [show (2 : Int32).toNatClampNeg = 2 from by decide] at hB
                have hB : tl_B D d a0 w b cB Lh Ah A L n (hs_sg (hs_sg cv 16 u 4 r_) 16 u 2 (nI (rd_S j + w_ + g))) σ H := hB
                refine lv_aload hx hb dX5_go_206 (lv_at hl 0 rfl) ?_
                refine lv_iconst (v := 2) hx hb dX5_go_208 (by decide) ?_
                refine tl_iald hx hb hKK.1 hB 6 u (by decide) (by decide) (by rw [n6]; exact huN) (i := 2) (by unfold vp_in; decide) dX5_go_209 ?_
                rw [show (2 : Int32).toNatClampNeg = 2 from by decide]
                rw [show (hs_sg (hs_sg cv 16 u 4 r_) 16 u 2 (nI (rd_S j + w_ + g))) 16 u 2 = nI (rd_S j + w_ + g) from (by simp [hs_sg])]
                refine lv_bipush (v := 36) hx hb dX5_go_210 (by decide) ?_
                refine lv_icmp_ge (tgt := 218) hx hb dX5_go_212 (by decide) (fun c_212 => ?_) (fun c_212 => ?_)
                · refine lv_aload hx hb dX5_go_218 (lv_at hl 0 rfl) ?_
                  refine lv_iconst (v := 3) hx hb dX5_go_220 (by decide) ?_
                  refine lv_iconst (v := 0) hx hb dX5_go_221 (by decide) ?_
                  refine tl_iast hx hb hKK.1 hB hS 6 u (by decide) (by decide) (by rw [n6]; exact huN) (i := 3) (x := 0) (by unfold vp_in; decide) dX5_go_222 (fun H locs hB hS hz => ?_)
                  rw [show (3 : Int32).toNatClampNeg = 3 from by decide] at hB
                  have hB : tl_B D d a0 w b cB Lh Ah A L n (hs_sg (hs_sg (hs_sg cv 16 u 4 r_) 16 u 2 (nI (rd_S j + w_ + g))) 16 u 3 (0 : Int32)) σ H := hB
                  refine lv_iinc (v := many + 1) (lv' := [(3, .int (many + 1)), (7, .ref (L 16 u)), (6, .int (nI u)), (5, .int (nI F)), (4, .ref (L 6 0)), (2, .int z), (1, .int x), (0, .ref a0)]) hx hb dX5_go_223 hl (k := 4) rfl rfl (by decide) rfl (fun ls hl => ?_)
                  refine lv_iinc (v := nI (u + 1)) (lv' := [(6, .int (nI (u + 1))), (3, .int (many + 1)), (7, .ref (L 16 u)), (5, .int (nI F)), (4, .ref (L 6 0)), (2, .int z), (1, .int x), (0, .ref a0)]) hx hb dX5_go_226 hl (k := 2) rfl (nI_succ _).symm (by decide) rfl (fun ls hl => ?_)
                  refine lv_goto (tgt := 126) hx hb dX5_go_229 (by decide) ?_
                  exact ih (u + 1) (by omega) (hs_sg (hs_sg (hs_sg cv 16 u 4 r_) 16 u 2 (nI (rd_S j + w_ + g))) 16 u 3 (0 : Int32)) (many + 1) (tl_gA_step hA huN hr9 hj hw9 hg9 s4 (fun a i e_ h_ => by simp only [hs_sg]; repeat rw [if_neg (by omega)]) (by simp [hs_sg]) (Or.inr ⟨Nat.le_of_not_lt fun z_ => nI_ge (b := 36) z_ (by decide) c_212, by simp [hs_sg], rfl⟩)) H locs hB hS ls (lv_sub hl [0, 3, 4, 1, 5, 6, 7] rfl)
                · refine lv_goto (tgt := 226) hx hb dX5_go_215 (by decide) ?_
                  refine lv_iinc (v := nI (u + 1)) (lv' := [(6, .int (nI (u + 1))), (7, .ref (L 16 u)), (5, .int (nI F)), (4, .ref (L 6 0)), (3, .int many), (2, .int z), (1, .int x), (0, .ref a0)]) hx hb dX5_go_226 hl (k := 1) rfl (nI_succ _).symm (by decide) rfl (fun ls hl => ?_)
                  refine lv_goto (tgt := 126) hx hb dX5_go_229 (by decide) ?_
                  exact ih (u + 1) (by omega) (hs_sg (hs_sg cv 16 u 4 r_) 16 u 2 (nI (rd_S j + w_ + g))) many (tl_gA_step hA huN hr9 hj hw9 hg9 s4 (fun a i e_ h_ => by simp only [hs_sg]; repeat rw [if_neg (by omega)]) (by simp [hs_sg]) (Or.inl ⟨Nat.lt_of_not_le fun z_ => c_212 (nI_le (a := 36) z_ (by omega)), by simp [hs_sg, c3], rfl⟩)) H locs hB hS ls (lv_sub hl [0, 2, 3, 4, 5, 6, 7] rfl)
          · exact absurd c_156 (by decide +kernel)
    · refine lv_iload hx hb dX5_go_126 (lv_at hl 0 rfl) ?_
      refine lv_iload hx hb dX5_go_128 (lv_at hl 1 rfl) ?_
      refine lv_icmp_ge (tgt := 232) hx hb dX5_go_130 (by decide) (fun c_130 => ?_) (fun c_130 => ?_)
      · exact absurd c_130 (nI_ge huN (by omega))
      · refine lv_aload hx hb dX5_go_133 (lv_at hl 2 rfl) ?_
        refine lv_iload hx hb dX5_go_135 (lv_at hl 0 rfl) ?_
        refine tl_aald hx hb hKK.2.1 hB 6 u (by decide) (by decide) (by rw [n6]; exact huN) (by omega) dX5_go_137 ?_
        refine lv_astore (lv' := [(7, .ref (L 16 u)), (6, .int (nI u)), (5, .int (nI F)), (4, .ref (L 6 0)), (3, .int many), (2, .int z), (1, .int x), (0, .ref a0)]) hx hb dX5_go_138 hl (by decide) rfl (fun ls hl => ?_)
        refine lv_aload hx hb dX5_go_140 (lv_at hl 0 rfl) ?_
        refine lv_iconst (v := 2) hx hb dX5_go_142 (by decide) ?_
        refine tl_iald hx hb hKK.1 hB 6 u (by decide) (by decide) (by rw [n6]; exact huN) (i := 2) (by unfold vp_in; decide) dX5_go_143 ?_
        rw [show (2 : Int32).toNatClampNeg = 2 from by decide]
        rw [show cv 16 u 2 = nI W from c2]
        refine lv_bipush (v := 36) hx hb dX5_go_144 (by decide) ?_
        refine lv_icmp_ge (tgt := 226) hx hb dX5_go_146 (by decide) (fun c_146 => ?_) (fun c_146 => ?_)
        · refine lv_iinc (v := nI (u + 1)) (lv' := [(6, .int (nI (u + 1))), (7, .ref (L 16 u)), (5, .int (nI F)), (4, .ref (L 6 0)), (3, .int many), (2, .int z), (1, .int x), (0, .ref a0)]) hx hb dX5_go_226 hl (k := 1) rfl (nI_succ _).symm (by decide) rfl (fun ls hl => ?_)
          refine lv_goto (tgt := 126) hx hb dX5_go_229 (by decide) ?_
          exact ih (u + 1) (by omega) cv many (tl_gA_done hA s2) H locs hB hS ls (lv_sub hl [0, 2, 3, 4, 5, 6, 7] rfl)
        · exact absurd (nI_le (a := 36) hW (by omega)) c_146
set_option maxHeartbeats 4000000 in
set_option maxRecDepth 100000 in
/-- Told: go -/
theorem kX5_go (l : Launch) (D : va_G) (d : hs_Dm) (a0 w b : Nat) (cB : ClassId) (Lh L2 : hs_Lo) (Ah A : Nat → Prop) (N : Nat) (xs : Nat → Int32) (L : hs_Lo) (n : Nat → Nat) (c σ : hs_St) (sz : Nat) (hH : tl_H w b Ah A sz) (hN31 : N < 2 ^ 31) (P F R k dy : Nat) (σm : hs_St) (x z : Int32) (T : tm P F R n c σm k dy) (hP1 : 1 ≤ P) (hP7 : P ≤ 7) (hF7 : F ≤ 7) (h30 : (dy + 1) % 30 ≠ 0) (hdy : dy < 2 ^ 20) : tl_Mi l yX5_go wsX5_go ({ frames := 2, cells := 1, slots := 8, locals := 60 }) D d a0 w b cB Lh L2 Ah A N xs L n c σ sz [.ref a0, .int x, .int z] (fun r X => X.1 = L ∧ X.2.1 = n ∧ X.2.2.2 = σ ∧ r = (sp_day σm P F x z).1 ∧ tm P F R n X.2.2.1 (sp_day σm P F x z).2 k (dy + 1)) 1 8 := by
  refine Met.ofW (cc := cX5_go) (maxL := 10) (ret := (some .int)) (by decide) rfl ?_
  intro p e s m args below meth c0 s₁ B hml hv
  obtain ⟨rfl, hsz, hB, hKK⟩ := hv
  have hx := B.exec
  have hb := B.bytes
  have hr := B.returns
  have hts := atoms_spec (ws := wsX5_go) B.pre
  have hown : s.vm.findClass RX5 = some m.cls := findClass_of_methodNamed B.named
  have hlocks := B.notSynchronized
  have hS : va_S A s.heap s.heap [] := va_S.rf
  have hH : tl_H w b Ah A s.heap.size := by rw [hsz]; exact hH
  have hl := lv_entry ([.ref a0, .int x, .int z]) (n := 10) (Nat.le_of_ble_eq_true rfl)
  rw [lg_entry_eq]
  generalize (lg_sl ([.ref a0, .int x, .int z]) ++ List.replicate (10 - (lg_sl ([.ref a0, .int x, .int z])).length) Slot.unset).toArray = ls at hl ⊢
  have hl : lv_has ls 10 [(0, .ref a0), (1, .int x), (2, .int z)] := hl
  obtain ⟨⟨n1, n2, n3, n4, n5, n6, n7⟩, hk2, hd10, hd6, hpp, hff⟩ := id T
  refine lv_aload_n hx hb dX5_go_0 rfl (lv_at hl 0 rfl) ?_
  refine lv_dup hx hb dX5_go_1 rfl ?_
  refine tl_get hx hb hts (by decide +kernel) hown hKK.1 hB 10 (by decide) (hts (.fieldLink RX5 146 "WaxrowLaw$Told" "day" "I") (by decide +kernel)) rfl (v := .int (c 0 0 10)) rfl dX5_go_2 ?_
  rw [show c 0 0 10 = nI dy from hd10]
  refine lv_iconst (v := 1) hx hb dX5_go_5 (by decide) ?_
  refine lv_iadd hx hb dX5_go_6 ?_
  rw [nI_1]
  refine tl_puti hx hb hts (by decide +kernel) hown hKK.1 hB hS 10 (by decide) (hts (.fieldLink RX5 146 "WaxrowLaw$Told" "day" "I") (by decide +kernel)) rfl rfl (nI (dy + 1)) (by decide +kernel) rfl dX5_go_7 (fun H locs hB hS hz hq => ?_)
  have hB : tl_B D d a0 w b cB Lh Ah A L n (hs_sg c 0 0 10 (nI (dy + 1))) σ H := hB
  refine lv_iconst (v := 0) hx hb dX5_go_10 (by decide) ?_
  refine lv_istore_n (lv' := [(3, .int 0), (0, .ref a0), (1, .int x), (2, .int z)]) hx hb dX5_go_11 rfl hl (by decide) rfl (fun ls hl => ?_)
  refine lv_iconst (v := 0) hx hb dX5_go_12 (by decide) ?_
  refine lv_istore (lv' := [(4, .int 0), (3, .int 0), (0, .ref a0), (1, .int x), (2, .int z)]) hx hb dX5_go_13 hl (by decide) rfl (fun ls hl => ?_)
  refine lv_iload hx hb dX5_go_15 (lv_at hl 0 rfl) ?_
  refine lv_aload_n hx hb dX5_go_17 rfl (lv_at hl 2 rfl) ?_
  refine tl_get hx hb hts (by decide +kernel) hown hKK.1 hB 3 (by decide) (hts (.fieldLink RX5 18 "WaxrowLaw$Told" "fame" "[[I") (by decide +kernel)) rfl (v := .ref (L 1 0)) rfl dX5_go_18 ?_
  refine tl_len hx hb hKK.2.1 hB 1 (by decide) (by decide) dX5_go_21 ?_
  rw [show n 1 = P from n1]
  refine lv_icmp_ge (tgt := 112) hx hb dX5_go_22 (by decide) (fun c_22 => ?_) (fun c_22 => ?_)
  · exact absurd c_22 (nI_nle (by omega) (by omega))
  · refine lv_aload_n hx hb dX5_go_25 rfl (lv_at hl 2 rfl) ?_
    refine tl_get hx hb hts (by decide +kernel) hown hKK.1 hB 10 (by decide) (hts (.fieldLink RX5 146 "WaxrowLaw$Told" "day" "I") (by decide +kernel)) rfl (v := .int ((hs_sg c 0 0 10 (nI (dy + 1))) 0 0 10)) rfl dX5_go_26 ?_
    rw [show (hs_sg c 0 0 10 (nI (dy + 1))) 0 0 10 = nI (dy + 1) from rfl]
    refine lv_bipush (v := 30) hx hb dX5_go_29 (by decide) ?_
    refine lv_irem hx hb dX5_go_31 (by decide) ?_
    rw [show (nI (dy + 1)) - (nI (dy + 1)) / 30 * 30 = nI ((dy + 1) % 30) from tl_rem (m := 30) (by omega) (by decide) (by decide)]
    refine lv_if_ne (tgt := 112) hx hb dX5_go_32 (by decide) (fun c_32 => ?_) (fun c_32 => ?_)
    · refine lv_aload_n hx hb dX5_go_112 rfl (lv_at hl 2 rfl) ?_
      refine tl_get hx hb hts (by decide +kernel) hown hKK.1 hB 8 (by decide) (hts (.fieldLink RX5 34 "WaxrowLaw$Told" "figures" "[[I") (by decide +kernel)) rfl (v := .ref (L 6 0)) rfl dX5_go_113 ?_
      refine lv_astore (lv' := [(4, .ref (L 6 0)), (3, .int 0), (0, .ref a0), (1, .int x), (2, .int z)]) hx hb dX5_go_116 hl (by decide) rfl (fun ls hl => ?_)
      refine lv_aload hx hb dX5_go_118 (lv_at hl 0 rfl) ?_
      refine tl_len hx hb hKK.2.1 hB 6 (by decide) (by decide) dX5_go_120 ?_
      rw [show n 6 = F from n6]
      refine lv_istore (lv' := [(5, .int (nI F)), (4, .ref (L 6 0)), (3, .int 0), (0, .ref a0), (1, .int x), (2, .int z)]) hx hb dX5_go_121 hl (by decide) rfl (fun ls hl => ?_)
      refine lv_iconst (v := 0) hx hb dX5_go_123 (by decide) ?_
      refine lv_istore (lv' := [(6, .int 0), (5, .int (nI F)), (4, .ref (L 6 0)), (3, .int 0), (0, .ref a0), (1, .int x), (2, .int z)]) hx hb dX5_go_124 hl (by decide) rfl (fun ls hl => ?_)
      exact lkX5_goA l D d a0 w b cB Lh L2 Ah A N xs L n c σ hN31 P F R k dy σm x z T hP1 hP7 hF7 h30 hdy hx hb hr hts hown hlocks hml hKK hH F 0 (by omega) (hs_sg c 0 0 10 (nI (dy + 1))) 0 ⟨fun _ _ _ _ => rfl, fun f hf => (hff f hf).of (Nat.le_refl _) (fun j => rfl) (fun j _ => q9_dawn P f j), rfl⟩ _ _ hB hS ls (lv_sub hl [0, 1, 2, 3, 6, 5, 4] rfl)
    · exact absurd c_32 (nI_ne0 (by omega) (by omega))
