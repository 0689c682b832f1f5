/-! WHAT WOULD BE, ASKED OF THE REFERENCE -/
def mp_fames (g : Nat → Int32) (a : Nat) : Nat → Nat → Int32
  | 0 => g
  | n + 1 => mp_month (mp_fames g a n) a
def mp_fame (ρ : hs_St) (q a N : Nat) : Int32 := mp_fames (va_cpy (ρ 11 q) (fun _ => 0) 0 0 9) a N a
set_option maxHeartbeats 4000000 in
set_option maxRecDepth 100000 in
/-- the reference: X6_fameNow: the loop at 27 -/
theorem lkX6_fameNow (l : Launch) (D : va_G) (d : hs_Dm) (cB : ClassId) (L : hs_Lo) (m0 : Nat) (th : Int32) (ρ : hs_St) (A : Nat → Prop) (sz : Nat) (v : Nat) (nv : mm_nw L m0 v) (hAv : A v) (g : Nat → Int32) (a : Nat) (ha : a < 3) (N : Nat) (hN : N < 1000) {p : Program} {e : Env} {s : State} {m : MethodId} {args : Array Value} {below : List Frame} {meth : Method} {c0 : Code} (hx : p.tables.exec = Jvm.exec) (hb : c0.code = cX6_fameNow) (hr : meth.sig.returnType = (some .int)) (hts : ∀ w ∈ wsX6_fameNow, w.before args s = true) (hown : s.vm.findClass RX6 = some m.cls) (hlocks : meth.locks = false) (hml : c0.maxLocals = 6) (hKK : mh_K D d cB s) : ∀ (kk n : Nat), n + kk = N → ∀ (H : Heap) (locs : List Loc), va_at D vwCl (v, .inl (d.1, 9, .inl (mp_fames g a n))) H → mm_W D d cB L m0 th ρ A H → va_S A s.heap H locs → ∀ ls : Array Slot, lv_has ls 6 [(5, .int (nI n)), (4, .ref v), (0, .ref m0), (2, .int (nI a)), (3, .int (nI N))] → W p l e (({ frames := 3, cells := 1, slots := 9, locals := 100 } : Room)) s m args below meth c0 H locs 1 9 (MQ below (va_Qi (fun r X => mp_fames g a N a = r ∧ th = X.1 ∧ ρ = X.2) (fun (X : mm_X) t => mm_W D d cB L m0 X.1 X.2 A t.heap) A) args s 1 9 A) (F0 m 27 ls []) := by
  intro kk
  induction kk with
  | zero =>
    intro n hn H locs hv hM hS ls hl
    have hnN : n = N := by omega
    have hW := hM.2.1
    refine lv_iload hx hb dX6_fameNow_27 (lv_at hl 0 rfl) ?_
    refine lv_iload_n hx hb dX6_fameNow_29 rfl (lv_at hl 4 rfl) ?_
    refine lv_icmp_ge (tgt := 45) hx hb dX6_fameNow_30 (by decide) (fun c_30 => ?_) (fun c_30 => ?_)
    · refine lv_aload hx hb dX6_fameNow_45 (lv_at hl 1 rfl) ?_
      refine lv_iload_n hx hb dX6_fameNow_47 rfl (lv_at hl 3 rfl) ?_
      refine mh_niald hx hb hKK.1 hv (i := nI a) (by unfold vp_in; exact nI_in (show a < 9 by omega) (by decide)) dX6_fameNow_48 ?_
      rw [nI_clamp (n := a) (by omega)]
      refine W.widen (k := 1) (n := 9) (by omega) (by omega) ?_
      exact W.iret (v := mp_fames g a n a) hx hb hr (fun t ht hW9 => ⟨⟨mp_fames g a n a, (th, ρ), rfl, (by subst hnN; exact ⟨rfl, rfl, rfl⟩), by show mm_W D d cB L m0 _ _ A t.heap; rw [ht]; exact hM⟩, hS.F ht⟩) hS.2.2 dX6_fameNow_49
    · exact absurd (by rw [hnN]; exact nI_le (a := N) (b := N) (Nat.le_refl _) (by omega)) c_30
  | succ kk ih =>
    intro n hn H locs hv hM hS ls hl
    have hnN : n < N := by omega
    have hW := hM.2.1
    refine lv_iload hx hb dX6_fameNow_27 (lv_at hl 0 rfl) ?_
    refine lv_iload_n hx hb dX6_fameNow_29 rfl (lv_at hl 4 rfl) ?_
    refine lv_icmp_ge (tgt := 45) hx hb dX6_fameNow_30 (by decide) (fun c_30 => ?_) (fun c_30 => ?_)
    · exact absurd c_30 (nI_ge (b := N) hnN (by omega))
    · refine lv_aload hx hb dX6_fameNow_33 (lv_at hl 1 rfl) ?_
      refine lv_iload_n hx hb dX6_fameNow_35 rfl (lv_at hl 3 rfl) ?_
      refine mm_mon ⟨hx, hb, hml, hown, hts⟩ ha (va_cwS 2 hts gX6_fameNow_X5_month rfl rfl rfl (by decide +kernel) ⟨Nat.le_of_ble_eq_true rfl, Nat.le_of_ble_eq_true rfl⟩) hKK hM hS hv nv hAv rfl hl.1 (Nat.le_of_ble_eq_true rfl) dX6_fameNow_36 ⟨Nat.le_of_ble_eq_true rfl, Nat.le_of_ble_eq_true rfl⟩ rfl (fun H locs hM hv hz hS => ?_)
      have hW := hM.2.1
      refine lv_iinc (v := nI (n + 1)) (lv' := [(5, .int (nI (n + 1))), (4, .ref v), (0, .ref m0), (2, .int (nI a)), (3, .int (nI N))]) hx hb dX6_fameNow_39 hl (k := 0) rfl (nI_succ _).symm (by decide) rfl (fun ls hl => ?_)
      refine lv_goto (tgt := 27) hx hb dX6_fameNow_42 (by decide) ?_
      have hM : mm_W D d cB L m0 th ρ A H := hM
      exact ih (n + 1) (by omega) _ _ hv hM hS ls (lv_sub hl [0, 1, 2, 3, 4] rfl)
set_option maxHeartbeats 4000000 in
set_option maxRecDepth 100000 in
/-- the reference: X6_fameNow -/
theorem kX6_fameNow (l : Launch) (D : va_G) (d : hs_Dm) (cB : ClassId) (L : hs_Lo) (m0 : Nat) (th : Int32) (ρ : hs_St) (A : Nat → Prop) (sz : Nat) (q : Nat) (hq : q < 10) (a : Nat) (ha : a < 3) (N : Nat) (hN : N < 1000) (hA : mh_A A sz) : mm_Mi l yX6_fameNow wsX6_fameNow ({ frames := 3, cells := 1, slots := 9, locals := 100 } : Room) D d cB L m0 th ρ A sz [.ref m0, .int (nI q), .int (nI a), .int (nI N)] (fun r X => mp_fame ρ q a N = r ∧ th = X.1 ∧ ρ = X.2) 1 9 := by
  refine Met.ofW (cc := cX6_fameNow) (maxL := 6) (ret := (some .int)) (by decide) rfl ?_
  intro p e s m args below meth c0 s₁ B hml hv
  obtain ⟨rfl, hsz, hM, hKK⟩ := hv
  have hx := B.exec
  have hb := B.bytes
  have hr := B.returns
  have hts := atoms_spec (ws := wsX6_fameNow) B.pre
  have hown : s.vm.findClass RX6 = some m.cls := findClass_of_methodNamed B.named
  have hlocks := B.notSynchronized
  have hS : va_S A s.heap s.heap [] := va_S.rf
  have hl := lv_entry ([.ref m0, .int (nI q), .int (nI a), .int (nI N)]) (n := 6) (Nat.le_of_ble_eq_true rfl)
  rw [lg_entry_eq]
  generalize (lg_sl ([.ref m0, .int (nI q), .int (nI a), .int (nI N)]) ++ List.replicate (6 - (lg_sl ([.ref m0, .int (nI q), .int (nI a), .int (nI N)])).length) Slot.unset).toArray = ls at hl ⊢
  have hl : lv_has ls 6 [(0, .ref m0), (1, .int (nI q)), (2, .int (nI a)), (3, .int (nI N))] := hl
  have hAz : ∀ q, s.heap.size ≤ q → A q := fun q h9 => hA q (by rw [hsz] at h9; exact h9)
  refine lv_bipush (v := 9) hx hb dX6_fameNow_0 (by decide) ?_
  refine mm_newa hx hb (hts (.arrayClass .int) (by decide +kernel)) hKK.1 hAz hM hS (by decide) (N' := 9) rfl (by decide) (Nat.le_of_ble_eq_true rfl) (Nat.le_of_ble_eq_true rfl) dX6_fameNow_2 (fun H v hM nv hAv hv hz hoq hv9 hS => ?_)
  have hW := hM.2.1
  refine lv_astore (lv' := [(4, .ref v), (0, .ref m0), (1, .int (nI q)), (2, .int (nI a)), (3, .int (nI N))]) hx hb dX6_fameNow_4 hl (by decide) rfl (fun ls hl => ?_)
  refine lv_aload_n hx hb dX6_fameNow_6 rfl (lv_at hl 1 rfl) ?_
  refine mm_house hx hb hts (by decide +kernel) hown hKK.1 hM (hts (.fieldLink RX6 10 "WaxrowModel" "house" "LWaxrowModel$House;") (by decide +kernel)) dX6_fameNow_7 ?_
  have hW := hM.2.1
  refine mh_get hx hb hts (by decide +kernel) hown hKK.1 hW 0 (by decide) (hts (.fieldLink RX6 46 "WaxrowModel$House" "persons" "[[I") (by decide +kernel)) rfl (v := .ref (L 1 0)) rfl dX6_fameNow_10 ?_
  refine lv_iload_n hx hb dX6_fameNow_13 rfl (lv_at hl 2 rfl) ?_
  refine mh_aald hx hb hKK.2.1 hW 1 q (by decide) (by decide) (by show q < mh_n 1; unfold mh_n; simp; omega) dX6_fameNow_14 ?_
  refine lv_iconst (v := 0) hx hb dX6_fameNow_15 (by decide) ?_
  refine lv_aload hx hb dX6_fameNow_16 (lv_at hl 0 rfl) ?_
  refine lv_iconst (v := 0) hx hb dX6_fameNow_18 (by decide) ?_
  refine lv_bipush (v := 9) hx hb dX6_fameNow_19 (by decide) ?_
  refine mm_copyout (N := 9) (k := 11) (q := q) hx hb (by rw [hml]; exact hl.1.symm) hown (hts (.methodLink RX6 76 arraycopyName) (by decide +kernel)) (hts (.native arraycopyName) (by decide +kernel)) (hts (.static arraycopyName) (by decide +kernel)) (hts (.initialized "java/lang/System") (by decide +kernel)) hKK.1 hM hS hv nv hAv (by decide) (mh_ixR (k := 1) (by decide) (by decide) (by show q < mh_n 1; unfold mh_n; simp; omega)) (by decide) (by decide) (by decide) (by decide +kernel) (Nat.le_of_ble_eq_true rfl) (Nat.le_of_ble_eq_true rfl) dX6_fameNow_21 (fun H locs hM hv hz hS => ?_)
  have hW := hM.2.1
  refine lv_iconst (v := 0) hx hb dX6_fameNow_24 (by decide) ?_
  refine lv_istore (lv' := [(5, .int 0), (4, .ref v), (0, .ref m0), (1, .int (nI q)), (2, .int (nI a)), (3, .int (nI N))]) hx hb dX6_fameNow_25 hl (by decide) rfl (fun ls hl => ?_)
  exact lkX6_fameNow l D d cB L m0 th ρ A sz v nv hAv (va_cpy (ρ 11 q) (fun _ => 0) 0 0 9) a ha N hN hx hb hr hts hown hlocks hml hKK N 0 (by omega) _ _ hv hM hS ls (lv_sub hl [0, 1, 2, 4, 5] rfl)
def mp_wouldFameP (P : Nat) (ρ : hs_St) (x y z : Int32) (r : Int32) (X : mm_X) : Prop := if mp_in x 0 (nI P - 1) = 0 then ((0 : Int32) = r ∧ (1 : Int32) = X.1 ∧ ρ = X.2) else if mp_in y 0 2 = 0 then ((0 : Int32) = r ∧ (1 : Int32) = X.1 ∧ ρ = X.2) else if mp_in z 0 60 = 0 then ((0 : Int32) = r ∧ (2 : Int32) = X.1 ∧ ρ = X.2) else (mp_fame ρ x.toNatClampNeg y.toNatClampNeg z.toNatClampNeg = r ∧ (0 : Int32) = X.1 ∧ ρ = X.2)
set_option maxHeartbeats 4000000 in
set_option maxRecDepth 100000 in
/-- the reference: X6_wouldFame -/
theorem kX6_wouldFame (l : Launch) (D : va_G) (d : hs_Dm) (cB : ClassId) (L : hs_Lo) (m0 : Nat) (th : Int32) (ρ : hs_St) (A : Nat → Prop) (sz : Nat) (P F R : Nat) (hok : mh_ok P F R ρ) (x y z : Int32) (hA : mh_A A sz) : mm_Mi l yX6_wouldFame wsX6_wouldFame ({ frames := 4, cells := 1, slots := 9, locals := 140 } : Room) D d cB L m0 th ρ A sz [.ref m0, .int x, .int y, .int z] (fun r X => mp_wouldFameP P ρ x y z r X) 1 9 := by
  refine Met.ofW (cc := cX6_wouldFame) (maxL := 4) (ret := (some .int)) (by decide) rfl ?_
  intro p e s m args below meth c0 s₁ B hml hv
  obtain ⟨rfl, hsz, hM, hKK⟩ := hv
  have hx := B.exec
  have hb := B.bytes
  have hr := B.returns
  have hts := atoms_spec (ws := wsX6_wouldFame) B.pre
  have hown : s.vm.findClass RX6 = some m.cls := findClass_of_methodNamed B.named
  have hlocks := B.notSynchronized
  have hS : va_S A s.heap s.heap [] := va_S.rf
  have hl := lv_entry ([.ref m0, .int x, .int y, .int z]) (n := 4) (Nat.le_of_ble_eq_true rfl)
  rw [lg_entry_eq]
  generalize (lg_sl ([.ref m0, .int x, .int y, .int z]) ++ List.replicate (4 - (lg_sl ([.ref m0, .int x, .int y, .int z])).length) Slot.unset).toArray = ls at hl ⊢
  have hl : lv_has ls 4 [(0, .ref m0), (1, .int x), (2, .int y), (3, .int z)] := hl
  have hAz : ∀ q, s.heap.size ≤ q → A q := fun q h9 => hA q (by rw [hsz] at h9; exact h9)
  refine lv_aload_n hx hb dX6_wouldFame_0 rfl (lv_at hl 0 rfl) ?_
  refine lv_iconst (v := 0) hx hb dX6_wouldFame_1 (by decide) ?_
  refine mm_putt hx hb hts (by decide +kernel) hown hKK.1 hM hS (hts (.fieldLink RX6 16 "WaxrowModel" "thrown" "I") (by decide +kernel)) (0 : Int32) dX6_wouldFame_2 (fun H locs hM hS hz => ?_)
  have hM : mm_W D d cB L m0 0 ρ A H := hM
  have hW := hM.2.1
  refine lv_aload_n hx hb dX6_wouldFame_5 rfl (lv_at hl 0 rfl) ?_
  refine lv_iload_n hx hb dX6_wouldFame_6 rfl (lv_at hl 1 rfl) ?_
  refine mm_calli (As := [.int x]) ⟨hx, hb, hml, hown, hts⟩ (kX6_isPerson l D d cB L m0 (0 : Int32) ρ A H.size P F R hok x) (cwV 1 hts gX6_wouldFame_X6_isPerson rfl rfl rfl (by decide +kernel) ⟨Nat.le_of_ble_eq_true rfl, Nat.le_of_ble_eq_true rfl⟩) hKK hM hS rfl hl.1 (Nat.le_of_ble_eq_true rfl) dX6_wouldFame_7 ⟨Nat.le_of_ble_eq_true rfl, Nat.le_of_ble_eq_true rfl⟩ rfl (fun r_ X_ H locs hp hM hz hS => ?_)
  obtain ⟨t_, τ_⟩ := X_
  obtain ⟨e1_, e2_, e3_⟩ := hp
  have e2_ : (0 : Int32) = t_ := e2_
  have e3_ : ρ = τ_ := e3_
  subst e1_ e2_ e3_
  have hM : mm_W D d cB L m0 0 ρ A H := hM
  have hW := hM.2.1
  refine lv_if_eq (tgt := 22) hx hb dX6_wouldFame_10 (by decide) (fun c_10 => ?_) (fun c_10 => ?_)
  · refine lv_aload_n hx hb dX6_wouldFame_22 rfl (lv_at hl 0 rfl) ?_
    refine lv_iconst (v := 1) hx hb dX6_wouldFame_23 (by decide) ?_
    refine mm_calli (As := [.int 1]) ⟨hx, hb, hml, hown, hts⟩ (kX6_no l D d cB L m0 (0 : Int32) ρ A H.size 1) (cwV 1 hts gX6_wouldFame_X6_no rfl rfl rfl (by decide +kernel) ⟨Nat.le_of_ble_eq_true rfl, Nat.le_of_ble_eq_true rfl⟩) hKK hM hS rfl hl.1 (Nat.le_of_ble_eq_true rfl) dX6_wouldFame_24 ⟨Nat.le_of_ble_eq_true rfl, Nat.le_of_ble_eq_true rfl⟩ rfl (fun r_ X_ H locs hp hM hz hS => ?_)
    obtain ⟨t_, τ_⟩ := X_
    obtain ⟨e1_, e2_, e3_⟩ := hp
    have e2_ : (1 : Int32) = t_ := e2_
    have e3_ : ρ = τ_ := e3_
    subst e1_ e2_ e3_
    have hM : mm_W D d cB L m0 1 ρ A H := hM
    have hW := hM.2.1
    refine W.widen (k := 1) (n := 9) (by omega) (by omega) ?_
    exact W.iret (v := 0) hx hb hr (fun t ht hW9 => ⟨⟨0, (1, ρ), rfl, (by show mp_wouldFameP P ρ x y z _ _; unfold mp_wouldFameP; rw [if_pos c_10]; exact ⟨rfl, rfl, rfl⟩), by show mm_W D d cB L m0 _ _ A t.heap; rw [ht]; exact hM⟩, hS.F ht⟩) hS.2.2 dX6_wouldFame_27
  · refine lv_iload_n hx hb dX6_wouldFame_13 rfl (lv_at hl 2 rfl) ?_
    refine lv_iconst (v := 0) hx hb dX6_wouldFame_14 (by decide) ?_
    refine lv_iconst (v := 2) hx hb dX6_wouldFame_15 (by decide) ?_
    refine mm_pure (As := [.int y, .int 0, .int 2]) ⟨hx, hb, hml, hown, hts⟩ (kX6_in l (y) (0) (2)) (va_cwS 3 hts gX6_wouldFame_X6_in rfl rfl rfl (by decide +kernel) ⟨Nat.le_of_ble_eq_true rfl, Nat.le_of_ble_eq_true rfl⟩) hM hS rfl hl.1 (Nat.le_of_ble_eq_true rfl) dX6_wouldFame_16 ⟨Nat.le_of_ble_eq_true rfl, Nat.le_of_ble_eq_true rfl⟩ rfl (fun r_ H locs hp hM hz hS => ?_)
    subst hp
    have hM : mm_W D d cB L m0 0 ρ A H := hM
    have hW := hM.2.1
    refine lv_if_ne (tgt := 28) hx hb dX6_wouldFame_19 (by decide) (fun c_19 => ?_) (fun c_19 => ?_)
    · refine lv_iload_n hx hb dX6_wouldFame_28 rfl (lv_at hl 3 rfl) ?_
      refine lv_iconst (v := 0) hx hb dX6_wouldFame_29 (by decide) ?_
      refine lv_bipush (v := 60) hx hb dX6_wouldFame_30 (by decide) ?_
      refine mm_pure (As := [.int z, .int 0, .int 60]) ⟨hx, hb, hml, hown, hts⟩ (kX6_in l (z) (0) (60)) (va_cwS 3 hts gX6_wouldFame_X6_in rfl rfl rfl (by decide +kernel) ⟨Nat.le_of_ble_eq_true rfl, Nat.le_of_ble_eq_true rfl⟩) hM hS rfl hl.1 (Nat.le_of_ble_eq_true rfl) dX6_wouldFame_32 ⟨Nat.le_of_ble_eq_true rfl, Nat.le_of_ble_eq_true rfl⟩ rfl (fun r_ H locs hp hM hz hS => ?_)
      subst hp
      have hM : mm_W D d cB L m0 0 ρ A H := hM
      have hW := hM.2.1
      refine lv_if_ne (tgt := 44) hx hb dX6_wouldFame_35 (by decide) (fun c_35 => ?_) (fun c_35 => ?_)
      · have hb9 : P ≤ 10 := hok.1
        obtain ⟨j, hj9, ej9⟩ := mp_in_ix (by omega) c_10
        subst ej9
        have hj : j < P := hj9
        have hclj := nI_clamp (n := j) (by omega)
        obtain ⟨b, hb9_, eb⟩ := mp_in_le (n := 2) (by decide) c_19
        subst eb
        have hclb := nI_clamp (n := b) (by omega)
        obtain ⟨N, hN9_, eN⟩ := mp_in_le (n := 60) (by decide) c_35
        subst eN
        have hclN := nI_clamp (n := N) (by omega)
        refine lv_aload_n hx hb dX6_wouldFame_44 rfl (lv_at hl 0 rfl) ?_
        refine lv_iload_n hx hb dX6_wouldFame_45 rfl (lv_at hl 1 rfl) ?_
        refine lv_iload_n hx hb dX6_wouldFame_46 rfl (lv_at hl 2 rfl) ?_
        refine lv_iload_n hx hb dX6_wouldFame_47 rfl (lv_at hl 3 rfl) ?_
        refine mm_calli (As := [.int (nI j), .int (nI b), .int (nI N)]) ⟨hx, hb, hml, hown, hts⟩ (kX6_fameNow l D d cB L m0 (0 : Int32) ρ A H.size j (by omega) b (by omega) N (by omega) (fun q h => hAz q (Nat.le_trans hS.1 h))) (cwV 3 hts gX6_wouldFame_X6_fameNow rfl rfl rfl (by decide +kernel) ⟨Nat.le_of_ble_eq_true rfl, Nat.le_of_ble_eq_true rfl⟩) hKK hM hS rfl hl.1 (Nat.le_of_ble_eq_true rfl) dX6_wouldFame_48 ⟨Nat.le_of_ble_eq_true rfl, Nat.le_of_ble_eq_true rfl⟩ rfl (fun r_ X_ H locs hp hM hz hS => ?_)
        obtain ⟨t_, τ_⟩ := X_
        obtain ⟨e1_, e2_, e3_⟩ := hp
        have e2_ : (0 : Int32) = t_ := e2_
        have e3_ : ρ = τ_ := e3_
        subst e1_ e2_ e3_
        have hM : mm_W D d cB L m0 0 ρ A H := hM
        have hW := hM.2.1
        refine W.widen (k := 1) (n := 9) (by omega) (by omega) ?_
        exact W.iret (v := mp_fame ρ j b N) hx hb hr (fun t ht hW9 => ⟨⟨mp_fame ρ j b N, (0, ρ), rfl, (by show mp_wouldFameP P ρ (nI j) (nI b) (nI N) _ _; unfold mp_wouldFameP; rw [if_neg c_10, if_neg c_19, if_neg c_35, hclj, hclb, hclN]; exact ⟨rfl, rfl, rfl⟩), by show mm_W D d cB L m0 _ _ A t.heap; rw [ht]; exact hM⟩, hS.F ht⟩) hS.2.2 dX6_wouldFame_51
      · refine lv_aload_n hx hb dX6_wouldFame_38 rfl (lv_at hl 0 rfl) ?_
        refine lv_iconst (v := 2) hx hb dX6_wouldFame_39 (by decide) ?_
        refine mm_calli (As := [.int 2]) ⟨hx, hb, hml, hown, hts⟩ (kX6_no l D d cB L m0 (0 : Int32) ρ A H.size 2) (cwV 1 hts gX6_wouldFame_X6_no rfl rfl rfl (by decide +kernel) ⟨Nat.le_of_ble_eq_true rfl, Nat.le_of_ble_eq_true rfl⟩) hKK hM hS rfl hl.1 (Nat.le_of_ble_eq_true rfl) dX6_wouldFame_40 ⟨Nat.le_of_ble_eq_true rfl, Nat.le_of_ble_eq_true rfl⟩ rfl (fun r_ X_ H locs hp hM hz hS => ?_)
        obtain ⟨t_, τ_⟩ := X_
        obtain ⟨e1_, e2_, e3_⟩ := hp
        have e2_ : (2 : Int32) = t_ := e2_
        have e3_ : ρ = τ_ := e3_
        subst e1_ e2_ e3_
        have hM : mm_W D d cB L m0 2 ρ A H := hM
        have hW := hM.2.1
        refine W.widen (k := 1) (n := 9) (by omega) (by omega) ?_
        exact W.iret (v := 0) hx hb hr (fun t ht hW9 => ⟨⟨0, (2, ρ), rfl, (by show mp_wouldFameP P ρ x y z _ _; unfold mp_wouldFameP; rw [if_neg c_10, if_neg c_19, if_pos c_35]; exact ⟨rfl, rfl, rfl⟩), by show mm_W D d cB L m0 _ _ A t.heap; rw [ht]; exact hM⟩, hS.F ht⟩) hS.2.2 dX6_wouldFame_43
    · refine lv_aload_n hx hb dX6_wouldFame_22 rfl (lv_at hl 0 rfl) ?_
      refine lv_iconst (v := 1) hx hb dX6_wouldFame_23 (by decide) ?_
      refine mm_calli (As := [.int 1]) ⟨hx, hb, hml, hown, hts⟩ (kX6_no l D d cB L m0 (0 : Int32) ρ A H.size 1) (cwV 1 hts gX6_wouldFame_X6_no rfl rfl rfl (by decide +kernel) ⟨Nat.le_of_ble_eq_true rfl, Nat.le_of_ble_eq_true rfl⟩) hKK hM hS rfl hl.1 (Nat.le_of_ble_eq_true rfl) dX6_wouldFame_24 ⟨Nat.le_of_ble_eq_true rfl, Nat.le_of_ble_eq_true rfl⟩ rfl (fun r_ X_ H locs hp hM hz hS => ?_)
      obtain ⟨t_, τ_⟩ := X_
      obtain ⟨e1_, e2_, e3_⟩ := hp
      have e2_ : (1 : Int32) = t_ := e2_
      have e3_ : ρ = τ_ := e3_
      subst e1_ e2_ e3_
      have hM : mm_W D d cB L m0 1 ρ A H := hM
      have hW := hM.2.1
      refine W.widen (k := 1) (n := 9) (by omega) (by omega) ?_
      exact W.iret (v := 0) hx hb hr (fun t ht hW9 => ⟨⟨0, (1, ρ), rfl, (by show mp_wouldFameP P ρ x y z _ _; unfold mp_wouldFameP; rw [if_neg c_10, if_pos c_19]; exact ⟨rfl, rfl, rfl⟩), by show mm_W D d cB L m0 _ _ A t.heap; rw [ht]; exact hM⟩, hS.F ht⟩) hS.2.2 dX6_wouldFame_27
def mp_rsum (w : Int32) : Nat → Nat → Int32
  | _, 0 => w
  | n, k + 1 => mp_rsum (w + mp_needs n) (n + 1) k
def mp_ready (ρ : hs_St) (f : Nat) : Int32 := if mp_isDone ρ f = 0 then (if ρ 14 f 4 = 0 then -1 else (mp_rsum (ρ 14 f 3) ((ρ 14 f 2).toNatClampNeg + 1) (5 - (ρ 14 f 2).toNatClampNeg) + ρ 14 f 4 - 1) / ρ 14 f 4) else 0
set_option maxHeartbeats 4000000 in
set_option maxRecDepth 100000 in
/-- the reference: X6_readyNow: the loop at 31 -/
theorem lkX6_readyNow (l : Launch) (D : va_G) (d : hs_Dm) (cB : ClassId) (L : hs_Lo) (m0 : Nat) (th : Int32) (ρ : hs_St) (A : Nat → Prop) (sz : Nat) (f : Nat) (wf : Int32) {p : Program} {e : Env} {s : State} {m : MethodId} {args : Array Value} {below : List Frame} {meth : Method} {c0 : Code} (hx : p.tables.exec = Jvm.exec) (hb : c0.code = cX6_readyNow) (hr : meth.sig.returnType = (some .int)) (hts : ∀ w ∈ wsX6_readyNow, w.before args s = true) (hown : s.vm.findClass RX6 = some m.cls) (hlocks : meth.locks = false) (hml : c0.maxLocals = 4) (hKK : mh_K D d cB s) {Q : State → Prop} (kK : ∀ (H : Heap) (locs : List Loc), mm_W D d cB L m0 th ρ A H → va_S A s.heap H locs → ∀ ls : Array Slot, lv_has ls 4 [(2, .int wf), (0, .ref m0), (1, .ref (L 14 f))] → W p l e (({ frames := 1, cells := 5, slots := 35, locals := 60 } : Room)) s m args below meth c0 H locs (6 - 1) (7 * (6 - 1)) Q (F0 m 50 ls [])) : ∀ (kk n : Nat), n + kk = 6 → 1 ≤ n → (∀ q, s.heap.size ≤ q → A q) → ∀ (w : Int32), mp_rsum w n kk = wf → ∀ (H : Heap) (locs : List Loc), mm_W D d cB L m0 th ρ A H → va_S A s.heap H locs → ∀ ls : Array Slot, lv_has ls 4 [(3, .int (nI n)), (2, .int w), (0, .ref m0), (1, .ref (L 14 f))] → W p l e (({ frames := 1, cells := 5, slots := 35, locals := 60 } : Room)) s m args below meth c0 H locs (n - 1) (7 * (n - 1)) Q (F0 m 31 ls []) := by
  intro kk
  induction kk with
  | zero =>
    intro n hn hn1 hAz w hyp H locs hM hS ls hl
    have hnN : n = 6 := by omega
    have hW := hM.2.1
    refine lv_iload_n hx hb dX6_readyNow_31 rfl (lv_at hl 0 rfl) ?_
    refine lv_bipush (v := 6) hx hb dX6_readyNow_32 (by decide) ?_
    refine lv_icmp_ge (tgt := 50) hx hb dX6_readyNow_34 (by decide) (fun c_34 => ?_) (fun c_34 => ?_)
    · subst hnN
      have hyp : w = wf := hyp
      subst hyp
      exact kK _ _ hM hS ls (lv_sub hl [1, 2, 3] rfl)
    · exact absurd (by rw [hnN]; exact nI_le (a := 6) (b := 6) (Nat.le_refl _) (by decide)) c_34
  | succ kk ih =>
    intro n hn hn1 hAz w hyp H locs hM hS ls hl
    have hnN : n < 6 := by omega
    have hW := hM.2.1
    refine lv_iload_n hx hb dX6_readyNow_31 rfl (lv_at hl 0 rfl) ?_
    refine lv_bipush (v := 6) hx hb dX6_readyNow_32 (by decide) ?_
    refine lv_icmp_ge (tgt := 50) hx hb dX6_readyNow_34 (by decide) (fun c_34 => ?_) (fun c_34 => ?_)
    · exact absurd c_34 (nI_ge (b := 6) hnN (by decide))
    · refine lv_iload_n hx hb dX6_readyNow_37 rfl (lv_at hl 1 rfl) ?_
      refine lv_iload_n hx hb dX6_readyNow_38 rfl (lv_at hl 0 rfl) ?_
      refine mm_needs (j := n) ⟨hx, hb, hml, hown, hts⟩ (kX6_needs l D d H.size n (by omega)) (va_cwS 1 hts gX6_readyNow_X6_needs rfl rfl rfl (by decide +kernel) ⟨Nat.le_of_ble_eq_true rfl, Nat.le_of_ble_eq_true rfl⟩) hKK.1 hAz hM hS rfl hl.1 (Nat.le_of_ble_eq_true rfl) dX6_readyNow_39 ⟨by show n - 1 + 1 ≤ 5; omega, by show 7 * (n - 1) + 7 ≤ 35; omega⟩ rfl (fun H locs hM hz hoq hS => ?_)
      have hW := hM.2.1
      refine lv_iadd hx hb dX6_readyNow_42 ?_
      refine lv_istore_n (lv' := [(2, .int (w + (mp_needs n))), (3, .int (nI n)), (0, .ref m0), (1, .ref (L 14 f))]) hx hb dX6_readyNow_43 rfl hl (by decide) rfl (fun ls hl => ?_)
      refine lv_iinc (v := nI (n + 1)) (lv' := [(3, .int (nI (n + 1))), (2, .int (w + (mp_needs n))), (0, .ref m0), (1, .ref (L 14 f))]) hx hb dX6_readyNow_44 hl (k := 1) rfl (nI_succ _).symm (by decide) rfl (fun ls hl => ?_)
      refine lv_goto (tgt := 31) hx hb dX6_readyNow_47 (by decide) ?_
      refine W.widen (k := (n + 1 - 1)) (n := 7 * (n + 1 - 1)) (by omega) (by omega) ?_
      exact ih (n + 1) (by omega) (by omega) hAz _ hyp _ _ hM hS ls (lv_sub hl [0, 1, 2, 3] rfl)
set_option maxHeartbeats 4000000 in
set_option maxRecDepth 100000 in
/-- the reference: X6_readyNow -/
theorem kX6_readyNow (l : Launch) (D : va_G) (d : hs_Dm) (cB : ClassId) (L : hs_Lo) (m0 : Nat) (th : Int32) (ρ : hs_St) (A : Nat → Prop) (sz : Nat) (f : Nat) (hf : f < 8) (hj : ∃ j, j ≤ 6 ∧ ρ 14 f 2 = nI j) (hA : mh_A A sz) : mm_Mi l yX6_readyNow wsX6_readyNow ({ frames := 1, cells := 5, slots := 35, locals := 60 } : Room) D d cB L m0 th ρ A sz [.ref m0, .ref (L 14 f)] (fun r X => mp_ready ρ f = r ∧ th = X.1 ∧ ρ = X.2) 5 35 := by
  refine Met.ofW (cc := cX6_readyNow) (maxL := 4) (ret := (some .int)) (by decide) rfl ?_
  intro p e s m args below meth c0 s₁ B hml hv
  obtain ⟨rfl, hsz, hM, hKK⟩ := hv
  have hx := B.exec
  have hb := B.bytes
  have hr := B.returns
  have hts := atoms_spec (ws := wsX6_readyNow) B.pre
  have hown : s.vm.findClass RX6 = some m.cls := findClass_of_methodNamed B.named
  have hlocks := B.notSynchronized
  have hS : va_S A s.heap s.heap [] := va_S.rf
  have hl := lv_entry ([.ref m0, .ref (L 14 f)]) (n := 4) (Nat.le_of_ble_eq_true rfl)
  rw [lg_entry_eq]
  generalize (lg_sl ([.ref m0, .ref (L 14 f)]) ++ List.replicate (4 - (lg_sl ([.ref m0, .ref (L 14 f)])).length) Slot.unset).toArray = ls at hl ⊢
  have hl : lv_has ls 4 [(0, .ref m0), (1, .ref (L 14 f))] := hl
  obtain ⟨j, hj6, hje⟩ := hj
  have hAz : ∀ q, s.heap.size ≤ q → A q := fun q h9 => hA q (by rw [hsz] at h9; exact h9)
  refine lv_aload_n hx hb dX6_readyNow_0 rfl (lv_at hl 0 rfl) ?_
  refine mm_house hx hb hts (by decide +kernel) hown hKK.1 hM (hts (.fieldLink RX6 10 "WaxrowModel" "house" "LWaxrowModel$House;") (by decide +kernel)) dX6_readyNow_1 ?_
  have hW := hM.2.1
  refine lv_aload_n hx hb dX6_readyNow_4 rfl (lv_at hl 1 rfl) ?_
  refine mh_callo (As := [.ref (L 14 f)]) ⟨hx, hb, hml, hown, hts⟩ (kX5_isDone l D d cB L ρ (mh_own L) s.heap.size f (by omega)) (cwV 1 hts gX6_readyNow_X5_isDone rfl rfl rfl (by decide +kernel) ⟨Nat.le_of_ble_eq_true rfl, Nat.le_of_ble_eq_true rfl⟩) hKK hW hS rfl hl.1 (Nat.le_of_ble_eq_true rfl) dX6_readyNow_5 ⟨Nat.le_of_ble_eq_true rfl, Nat.le_of_ble_eq_true rfl⟩ rfl (fun r_ τ_ H locs hp hW hz hqq hS => ?_)
  obtain ⟨e1_, e2_⟩ := hp
  subst e1_ e2_
  have hM : mm_W D d cB L m0 (th : Int32) ρ A H := ⟨hM.1.kept (hqq _ hM.1.lt (fun ⟨k9, i9, hx9, e9⟩ => hM.2.2.2 k9 i9 hx9 e9.symm)), hW, hM.2.2⟩
  refine lv_if_eq (tgt := 13) hx hb dX6_readyNow_8 (by decide) (fun c_8 => ?_) (fun c_8 => ?_)
  · refine lv_aload_n hx hb dX6_readyNow_13 rfl (lv_at hl 1 rfl) ?_
    refine lv_iconst (v := 4) hx hb dX6_readyNow_14 (by decide) ?_
    refine mh_iald hx hb hKK.1 hW 14 f (by decide) (mh_ixR (k := 4) (by decide) (by decide) (by show f < mh_n 4; unfold mh_n; simp; omega)) (i := 4) (by unfold vp_in; decide) dX6_readyNow_15 ?_
    rw [show (4 : Int32).toNatClampNeg = 4 from by decide]
    refine lv_if_ne (tgt := 21) hx hb dX6_readyNow_16 (by decide) (fun c_16 => ?_) (fun c_16 => ?_)
    · refine lv_aload_n hx hb dX6_readyNow_21 rfl (lv_at hl 1 rfl) ?_
      refine lv_iconst (v := 3) hx hb dX6_readyNow_22 (by decide) ?_
      refine mh_iald hx hb hKK.1 hW 14 f (by decide) (mh_ixR (k := 4) (by decide) (by decide) (by show f < mh_n 4; unfold mh_n; simp; omega)) (i := 3) (by unfold vp_in; decide) dX6_readyNow_23 ?_
      rw [show (3 : Int32).toNatClampNeg = 3 from by decide]
      refine lv_istore_n (lv' := [(2, .int (ρ 14 f 3)), (0, .ref m0), (1, .ref (L 14 f))]) hx hb dX6_readyNow_24 rfl hl (by decide) rfl (fun ls hl => ?_)
      refine lv_aload_n hx hb dX6_readyNow_25 rfl (lv_at hl 2 rfl) ?_
      refine lv_iconst (v := 2) hx hb dX6_readyNow_26 (by decide) ?_
      refine mh_iald hx hb hKK.1 hW 14 f (by decide) (mh_ixR (k := 4) (by decide) (by decide) (by show f < mh_n 4; unfold mh_n; simp; omega)) (i := 2) (by unfold vp_in; decide) dX6_readyNow_27 ?_
      rw [show (2 : Int32).toNatClampNeg = 2 from by decide]
      rw [hje]
      refine lv_iconst (v := 1) hx hb dX6_readyNow_28 (by decide) ?_
      refine lv_iadd hx hb dX6_readyNow_29 ?_
      rw [nI_1]
      refine lv_istore_n (lv' := [(3, .int (nI (j + 1))), (2, .int (ρ 14 f 3)), (0, .ref m0), (1, .ref (L 14 f))]) hx hb dX6_readyNow_30 rfl hl (by decide) rfl (fun ls hl => ?_)
      rcases (show j ≤ 5 ∨ j = 6 by omega) with hj5 | hj5
      · refine W.widen (k := (j + 1 - 1)) (n := 7 * (j + 1 - 1)) (by omega) (by omega) ?_
        refine lkX6_readyNow l D d cB L m0 th ρ A sz f (mp_rsum (ρ 14 f 3) (j + 1) (5 - j)) hx hb hr hts hown hlocks hml hKK (fun H locs hM hS ls hl => ?_) (5 - j) (j + 1) (by omega) (by omega) hAz _ rfl _ _ hM hS ls (lv_sub hl [0, 1, 2, 3] rfl)
        have hW := hM.2.1
        refine lv_iload_n hx hb dX6_readyNow_50 rfl (lv_at hl 0 rfl) ?_
        refine lv_aload_n hx hb dX6_readyNow_51 rfl (lv_at hl 2 rfl) ?_
        refine lv_iconst (v := 4) hx hb dX6_readyNow_52 (by decide) ?_
        refine mh_iald hx hb hKK.1 hW 14 f (by decide) (mh_ixR (k := 4) (by decide) (by decide) (by show f < mh_n 4; unfold mh_n; simp; omega)) (i := 4) (by unfold vp_in; decide) dX6_readyNow_53 ?_
        rw [show (4 : Int32).toNatClampNeg = 4 from by decide]
        refine lv_iadd hx hb dX6_readyNow_54 ?_
        refine lv_iconst (v := 1) hx hb dX6_readyNow_55 (by decide) ?_
        refine lv_isub hx hb dX6_readyNow_56 ?_
        refine lv_aload_n hx hb dX6_readyNow_57 rfl (lv_at hl 2 rfl) ?_
        refine lv_iconst (v := 4) hx hb dX6_readyNow_58 (by decide) ?_
        refine mh_iald hx hb hKK.1 hW 14 f (by decide) (mh_ixR (k := 4) (by decide) (by decide) (by show f < mh_n 4; unfold mh_n; simp; omega)) (i := 4) (by unfold vp_in; decide) dX6_readyNow_59 ?_
        rw [show (4 : Int32).toNatClampNeg = 4 from by decide]
        refine lv_idiv hx hb dX6_readyNow_60 c_16 ?_
        refine W.widen (k := 5) (n := 35) (by omega) (by omega) ?_
        exact W.iret (v := (((mp_rsum (ρ 14 f 3) (j + 1) (5 - j)) + (ρ 14 f 4)) - 1) / (ρ 14 f 4)) hx hb hr (fun t ht hW9 => ⟨⟨(((mp_rsum (ρ 14 f 3) (j + 1) (5 - j)) + (ρ 14 f 4)) - 1) / (ρ 14 f 4), (th, ρ), rfl, (by refine ⟨?_, rfl, rfl⟩; unfold mp_ready; rw [if_pos c_8, if_neg c_16, hje, nI_clamp (by omega)]), by show mm_W D d cB L m0 _ _ A t.heap; rw [ht]; exact hM⟩, hS.F ht⟩) hS.2.2 dX6_readyNow_61
      · subst hj5
        refine lv_iload_n hx hb dX6_readyNow_31 rfl (lv_at hl 0 rfl) ?_
        refine lv_bipush (v := 6) hx hb dX6_readyNow_32 (by decide) ?_
        refine lv_icmp_ge (tgt := 50) hx hb dX6_readyNow_34 (by decide) (fun c_34 => ?_) (fun c_34 => ?_)
        · refine lv_iload_n hx hb dX6_readyNow_50 rfl (lv_at hl 1 rfl) ?_
          refine lv_aload_n hx hb dX6_readyNow_51 rfl (lv_at hl 3 rfl) ?_
          refine lv_iconst (v := 4) hx hb dX6_readyNow_52 (by decide) ?_
          refine mh_iald hx hb hKK.1 hW 14 f (by decide) (mh_ixR (k := 4) (by decide) (by decide) (by show f < mh_n 4; unfold mh_n; simp; omega)) (i := 4) (by unfold vp_in; decide) dX6_readyNow_53 ?_
          rw [show (4 : Int32).toNatClampNeg = 4 from by decide]
          refine lv_iadd hx hb dX6_readyNow_54 ?_
          refine lv_iconst (v := 1) hx hb dX6_readyNow_55 (by decide) ?_
          refine lv_isub hx hb dX6_readyNow_56 ?_
          refine lv_aload_n hx hb dX6_readyNow_57 rfl (lv_at hl 3 rfl) ?_
          refine lv_iconst (v := 4) hx hb dX6_readyNow_58 (by decide) ?_
          refine mh_iald hx hb hKK.1 hW 14 f (by decide) (mh_ixR (k := 4) (by decide) (by decide) (by show f < mh_n 4; unfold mh_n; simp; omega)) (i := 4) (by unfold vp_in; decide) dX6_readyNow_59 ?_
          rw [show (4 : Int32).toNatClampNeg = 4 from by decide]
          refine lv_idiv hx hb dX6_readyNow_60 c_16 ?_
          refine W.widen (k := 5) (n := 35) (by omega) (by omega) ?_
          exact W.iret (v := (((ρ 14 f 3) + (ρ 14 f 4)) - 1) / (ρ 14 f 4)) hx hb hr (fun t ht hW9 => ⟨⟨(((ρ 14 f 3) + (ρ 14 f 4)) - 1) / (ρ 14 f 4), (th, ρ), rfl, (by refine ⟨?_, rfl, rfl⟩; unfold mp_ready; rw [if_pos c_8, if_neg c_16, hje, nI_clamp (by omega)]; rfl), by show mm_W D d cB L m0 _ _ A t.heap; rw [ht]; exact hM⟩, hS.F ht⟩) hS.2.2 dX6_readyNow_61
        · exact absurd (nI_le (a := 6) (b := 6 + 1) (by decide) (by decide)) c_34
    · refine lv_iconst (v := (-1)) hx hb dX6_readyNow_19 (by decide) ?_
      refine W.widen (k := 5) (n := 35) (by omega) (by omega) ?_
      exact W.iret (v := (-1)) hx hb hr (fun t ht hW9 => ⟨⟨(-1), (th, ρ), rfl, (by refine ⟨?_, rfl, rfl⟩; unfold mp_ready; rw [if_pos c_8, if_pos c_16]), by show mm_W D d cB L m0 _ _ A t.heap; rw [ht]; exact hM⟩, hS.F ht⟩) hS.2.2 dX6_readyNow_20
  · refine lv_iconst (v := 0) hx hb dX6_readyNow_11 (by decide) ?_
    refine W.widen (k := 5) (n := 35) (by omega) (by omega) ?_
    exact W.iret (v := 0) hx hb hr (fun t ht hW9 => ⟨⟨0, (th, ρ), rfl, (by refine ⟨?_, rfl, rfl⟩; unfold mp_ready; rw [if_neg c_8]), by show mm_W D d cB L m0 _ _ A t.heap; rw [ht]; exact hM⟩, hS.F ht⟩) hS.2.2 dX6_readyNow_12
def mp_readyInP (F : Nat) (ρ : hs_St) (x : Int32) (r : Int32) (X : mm_X) : Prop := if mp_in x 0 (nI F - 1) = 0 then ((0 : Int32) = r ∧ (1 : Int32) = X.1 ∧ ρ = X.2) else (mp_ready ρ x.toNatClampNeg = r ∧ (0 : Int32) = X.1 ∧ ρ = X.2)
set_option maxHeartbeats 4000000 in
set_option maxRecDepth 100000 in
/-- the reference: X6_readyIn -/
theorem kX6_readyIn (l : Launch) (D : va_G) (d : hs_Dm) (cB : ClassId) (L : hs_Lo) (m0 : Nat) (th : Int32) (ρ : hs_St) (A : Nat → Prop) (sz : Nat) (P F R : Nat) (hok : mh_ok P F R ρ) (x : Int32) (hA : mh_A A sz) : mm_Mi l yX6_readyIn wsX6_readyIn ({ frames := 2, cells := 5, slots := 35, locals := 100 } : Room) D d cB L m0 th ρ A sz [.ref m0, .int x] (fun r X => mp_readyInP F ρ x r X) 5 35 := by
  refine Met.ofW (cc := cX6_readyIn) (maxL := 2) (ret := (some .int)) (by decide) rfl ?_
  intro p e s m args below meth c0 s₁ B hml hv
  obtain ⟨rfl, hsz, hM, hKK⟩ := hv
  have hx := B.exec
  have hb := B.bytes
  have hr := B.returns
  have hts := atoms_spec (ws := wsX6_readyIn) B.pre
  have hown : s.vm.findClass RX6 = some m.cls := findClass_of_methodNamed B.named
  have hlocks := B.notSynchronized
  have hS : va_S A s.heap s.heap [] := va_S.rf
  have hl := lv_entry ([.ref m0, .int x]) (n := 2) (Nat.le_of_ble_eq_true rfl)
  rw [lg_entry_eq]
  generalize (lg_sl ([.ref m0, .int x]) ++ List.replicate (2 - (lg_sl ([.ref m0, .int x])).length) Slot.unset).toArray = ls at hl ⊢
  have hl : lv_has ls 2 [(0, .ref m0), (1, .int x)] := hl
  have hAz : ∀ q, s.heap.size ≤ q → A q := fun q h9 => hA q (by rw [hsz] at h9; exact h9)
  refine lv_aload_n hx hb dX6_readyIn_0 rfl (lv_at hl 0 rfl) ?_
  refine lv_iconst (v := 0) hx hb dX6_readyIn_1 (by decide) ?_
  refine mm_putt hx hb hts (by decide +kernel) hown hKK.1 hM hS (hts (.fieldLink RX6 16 "WaxrowModel" "thrown" "I") (by decide +kernel)) (0 : Int32) dX6_readyIn_2 (fun H locs hM hS hz => ?_)
  have hM : mm_W D d cB L m0 0 ρ A H := hM
  have hW := hM.2.1
  refine lv_aload_n hx hb dX6_readyIn_5 rfl (lv_at hl 0 rfl) ?_
  refine lv_iload_n hx hb dX6_readyIn_6 rfl (lv_at hl 1 rfl) ?_
  refine mm_calli (As := [.int x]) ⟨hx, hb, hml, hown, hts⟩ (kX6_isFigure l D d cB L m0 (0 : Int32) ρ A H.size P F R hok x) (cwV 1 hts gX6_readyIn_X6_isFigure rfl rfl rfl (by decide +kernel) ⟨Nat.le_of_ble_eq_true rfl, Nat.le_of_ble_eq_true rfl⟩) hKK hM hS rfl hl.1 (Nat.le_of_ble_eq_true rfl) dX6_readyIn_7 ⟨Nat.le_of_ble_eq_true rfl, Nat.le_of_ble_eq_true rfl⟩ rfl (fun r_ X_ H locs hp hM hz hS => ?_)
  obtain ⟨t_, τ_⟩ := X_
  obtain ⟨e1_, e2_, e3_⟩ := hp
  have e2_ : (0 : Int32) = t_ := e2_
  have e3_ : ρ = τ_ := e3_
  subst e1_ e2_ e3_
  have hM : mm_W D d cB L m0 0 ρ A H := hM
  have hW := hM.2.1
  refine lv_if_ne (tgt := 19) hx hb dX6_readyIn_10 (by decide) (fun c_10 => ?_) (fun c_10 => ?_)
  · have hb9 : F ≤ 8 := hok.2.1
    obtain ⟨j, hj9, ej9⟩ := mp_in_ix (by omega) c_10
    subst ej9
    have hj : j < F := hj9
    have hclj := nI_clamp (n := j) (by omega)
    refine lv_aload_n hx hb dX6_readyIn_19 rfl (lv_at hl 0 rfl) ?_
    refine lv_aload_n hx hb dX6_readyIn_20 rfl (lv_at hl 0 rfl) ?_
    refine mm_house hx hb hts (by decide +kernel) hown hKK.1 hM (hts (.fieldLink RX6 10 "WaxrowModel" "house" "LWaxrowModel$House;") (by decide +kernel)) dX6_readyIn_21 ?_
    have hW := hM.2.1
    refine mh_get hx hb hts (by decide +kernel) hown hKK.1 hW 3 (by decide) (hts (.fieldLink RX6 60 "WaxrowModel$House" "figures" "[[I") (by decide +kernel)) rfl (v := .ref (L 4 0)) rfl dX6_readyIn_24 ?_
    refine lv_iload_n hx hb dX6_readyIn_27 rfl (lv_at hl 1 rfl) ?_
    refine mh_aald hx hb hKK.2.1 hW 4 j (by decide) (by decide) (by have := hok.2.1; show j < mh_n 4; unfold mh_n; simp; omega) dX6_readyIn_28 ?_
    refine mm_calli (As := [.ref (L 14 j)]) ⟨hx, hb, hml, hown, hts⟩ (kX6_readyNow l D d cB L m0 (0 : Int32) ρ A H.size j (by omega) (hok.2.2.2.2.2.2 j hj).2.2.1 (fun q h => hAz q (Nat.le_trans hS.1 h))) (cwV 1 hts gX6_readyIn_X6_readyNow rfl rfl rfl (by decide +kernel) ⟨Nat.le_of_ble_eq_true rfl, Nat.le_of_ble_eq_true rfl⟩) hKK hM hS rfl hl.1 (Nat.le_of_ble_eq_true rfl) dX6_readyIn_29 ⟨Nat.le_of_ble_eq_true rfl, Nat.le_of_ble_eq_true rfl⟩ rfl (fun r_ X_ H locs hp hM hz hS => ?_)
    obtain ⟨t_, τ_⟩ := X_
    obtain ⟨e1_, e2_, e3_⟩ := hp
    have e2_ : (0 : Int32) = t_ := e2_
    have e3_ : ρ = τ_ := e3_
    subst e1_ e2_ e3_
    have hM : mm_W D d cB L m0 0 ρ A H := hM
    have hW := hM.2.1
    refine W.widen (k := 5) (n := 35) (by omega) (by omega) ?_
    exact W.iret (v := mp_ready ρ j) hx hb hr (fun t ht hW9 => ⟨⟨mp_ready ρ j, (0, ρ), rfl, (by show mp_readyInP F ρ (nI j) _ _; unfold mp_readyInP; rw [if_neg c_10, hclj]; exact ⟨rfl, rfl, rfl⟩), by show mm_W D d cB L m0 _ _ A t.heap; rw [ht]; exact hM⟩, hS.F ht⟩) hS.2.2 dX6_readyIn_32
  · refine lv_aload_n hx hb dX6_readyIn_13 rfl (lv_at hl 0 rfl) ?_
    refine lv_iconst (v := 1) hx hb dX6_readyIn_14 (by decide) ?_
    refine mm_calli (As := [.int 1]) ⟨hx, hb, hml, hown, hts⟩ (kX6_no l D d cB L m0 (0 : Int32) ρ A H.size 1) (cwV 1 hts gX6_readyIn_X6_no rfl rfl rfl (by decide +kernel) ⟨Nat.le_of_ble_eq_true rfl, Nat.le_of_ble_eq_true rfl⟩) hKK hM hS rfl hl.1 (Nat.le_of_ble_eq_true rfl) dX6_readyIn_15 ⟨Nat.le_of_ble_eq_true rfl, Nat.le_of_ble_eq_true rfl⟩ rfl (fun r_ X_ H locs hp hM hz hS => ?_)
    obtain ⟨t_, τ_⟩ := X_
    obtain ⟨e1_, e2_, e3_⟩ := hp
    have e2_ : (1 : Int32) = t_ := e2_
    have e3_ : ρ = τ_ := e3_
    subst e1_ e2_ e3_
    have hM : mm_W D d cB L m0 1 ρ A H := hM
    have hW := hM.2.1
    refine W.widen (k := 5) (n := 35) (by omega) (by omega) ?_
    exact W.iret (v := 0) hx hb hr (fun t ht hW9 => ⟨⟨0, (1, ρ), rfl, (by show mp_readyInP F ρ x _ _; unfold mp_readyInP; rw [if_pos c_10]; exact ⟨rfl, rfl, rfl⟩), by show mm_W D d cB L m0 _ _ A t.heap; rw [ht]; exact hM⟩, hS.F ht⟩) hS.2.2 dX6_readyIn_18
/-- from figure n on, k of them -/
def mp_has (ρ : hs_St) (q : Int32) : Nat → Nat → Int32
  | 0, _ => 0
  | k + 1, n => if ρ 14 n 7 = 7 then mp_has ρ q k (n + 1) else if ρ 14 n 0 = q then 1 else mp_has ρ q k (n + 1)
set_option maxHeartbeats 4000000 in
set_option maxRecDepth 100000 in
/-- the reference: X6_hasFigure: the loop at 2 -/
theorem lkX6_hasFigure (l : Launch) (D : va_G) (d : hs_Dm) (cB : ClassId) (L : hs_Lo) (m0 : Nat) (th : Int32) (ρ : hs_St) (A : Nat → Prop) (sz : Nat) (P F R : Nat) (hok : mh_ok P F R ρ) (q : Int32) {p : Program} {e : Env} {s : State} {m : MethodId} {args : Array Value} {below : List Frame} {meth : Method} {c0 : Code} (hx : p.tables.exec = Jvm.exec) (hb : c0.code = cX6_hasFigure) (hr : meth.sig.returnType = (some .boolean)) (hts : ∀ w ∈ wsX6_hasFigure, w.before args s = true) (hown : s.vm.findClass RX6 = some m.cls) (hlocks : meth.locks = false) (hml : c0.maxLocals = 3) (hKK : mh_K D d cB s) : ∀ (kk n : Nat), n + kk = F → mp_has ρ q kk n = mp_has ρ q F 0 → ∀ (H : Heap) (locs : List Loc), mm_W D d cB L m0 th ρ A H → va_S A s.heap H locs → ∀ ls : Array Slot, lv_has ls 3 [(2, .int (nI n)), (0, .ref m0), (1, .int q)] → W p l e (({ frames := 0, cells := 0, slots := 0, locals := 0 } : Room)) s m args below meth c0 H locs 0 0 (MQ below (va_Qi (fun r X => mp_has ρ q F 0 = r ∧ th = X.1 ∧ ρ = X.2) (fun (X : mm_X) t => mm_W D d cB L m0 X.1 X.2 A t.heap) A) args s 0 0 A) (F0 m 2 ls []) := by
  intro kk
  induction kk with
  | zero =>
    intro n hn hyp H locs hM hS ls hl
    have hnN : n = F := by omega
    have hW := hM.2.1
    have hF8 := hok.2.1
    refine lv_iload_n hx hb dX6_hasFigure_2 rfl (lv_at hl 0 rfl) ?_
    refine lv_aload_n hx hb dX6_hasFigure_3 rfl (lv_at hl 1 rfl) ?_
    refine mm_house hx hb hts (by decide +kernel) hown hKK.1 hM (hts (.fieldLink RX6 10 "WaxrowModel" "house" "LWaxrowModel$House;") (by decide +kernel)) dX6_hasFigure_4 ?_
    have hW := hM.2.1
    refine mh_get hx hb hts (by decide +kernel) hown hKK.1 hW 7 (by decide) (hts (.fieldLink RX6 36 "WaxrowModel$House" "figureCount" "I") (by decide +kernel)) rfl (v := .int (ρ 0 0 7)) rfl dX6_hasFigure_7 ?_
    rw [show ρ 0 0 7 = nI F from hok.2.2.2.2.1]
    refine lv_icmp_ge (tgt := 53) hx hb dX6_hasFigure_10 (by decide) (fun c_10 => ?_) (fun c_10 => ?_)
    · refine lv_iconst (v := 0) hx hb dX6_hasFigure_53 (by decide) ?_
      exact W.zret (v := 0) (ty := .boolean) hx hb hr rfl (fun t ht hW9 => ⟨⟨0, (th, ρ), rfl, ⟨hyp.symm, rfl, rfl⟩, by show mm_W D d cB L m0 _ _ A t.heap; rw [ht]; exact hM⟩, hS.F ht⟩) hS.2.2 dX6_hasFigure_54
    · exact absurd (by rw [hnN]; exact nI_le (a := F) (b := F) (Nat.le_refl _) (by omega)) c_10
  | succ kk ih =>
    intro n hn hyp H locs hM hS ls hl
    have hnN : n < F := by omega
    have hW := hM.2.1
    have hF8 := hok.2.1
    refine lv_iload_n hx hb dX6_hasFigure_2 rfl (lv_at hl 0 rfl) ?_
    refine lv_aload_n hx hb dX6_hasFigure_3 rfl (lv_at hl 1 rfl) ?_
    refine mm_house hx hb hts (by decide +kernel) hown hKK.1 hM (hts (.fieldLink RX6 10 "WaxrowModel" "house" "LWaxrowModel$House;") (by decide +kernel)) dX6_hasFigure_4 ?_
    have hW := hM.2.1
    refine mh_get hx hb hts (by decide +kernel) hown hKK.1 hW 7 (by decide) (hts (.fieldLink RX6 36 "WaxrowModel$House" "figureCount" "I") (by decide +kernel)) rfl (v := .int (ρ 0 0 7)) rfl dX6_hasFigure_7 ?_
    rw [show ρ 0 0 7 = nI F from hok.2.2.2.2.1]
    refine lv_icmp_ge (tgt := 53) hx hb dX6_hasFigure_10 (by decide) (fun c_10 => ?_) (fun c_10 => ?_)
    · exact absurd c_10 (nI_ge (b := F) hnN (by omega))
    · refine lv_aload_n hx hb dX6_hasFigure_13 rfl (lv_at hl 1 rfl) ?_
      refine mm_house hx hb hts (by decide +kernel) hown hKK.1 hM (hts (.fieldLink RX6 10 "WaxrowModel" "house" "LWaxrowModel$House;") (by decide +kernel)) dX6_hasFigure_14 ?_
      have hW := hM.2.1
      refine mh_get hx hb hts (by decide +kernel) hown hKK.1 hW 3 (by decide) (hts (.fieldLink RX6 60 "WaxrowModel$House" "figures" "[[I") (by decide +kernel)) rfl (v := .ref (L 4 0)) rfl dX6_hasFigure_17 ?_
      refine lv_iload_n hx hb dX6_hasFigure_20 rfl (lv_at hl 0 rfl) ?_
      refine mh_aald hx hb hKK.2.1 hW 4 n (by decide) (by decide) (by show n < mh_n 4; unfold mh_n; simp; omega) dX6_hasFigure_21 ?_
      refine lv_bipush (v := 7) hx hb dX6_hasFigure_22 (by decide) ?_
      refine mh_iald hx hb hKK.1 hW 14 n (by decide) (mh_ixR (k := 4) (by decide) (by decide) (by show n < mh_n 4; unfold mh_n; simp; omega)) (i := 7) (by unfold vp_in; decide) dX6_hasFigure_24 ?_
      rw [show (7 : Int32).toNatClampNeg = 7 from by decide]
      refine lv_bipush (v := 7) hx hb dX6_hasFigure_25 (by decide) ?_
      refine lv_icmp_eq (tgt := 47) hx hb dX6_hasFigure_27 (by decide) (fun c_27 => ?_) (fun c_27 => ?_)
      · refine lv_iinc (v := nI (n + 1)) (lv' := [(2, .int (nI (n + 1))), (0, .ref m0), (1, .int q)]) hx hb dX6_hasFigure_47 hl (k := 0) rfl (nI_succ _).symm (by decide) rfl (fun ls hl => ?_)
        refine lv_goto (tgt := 2) hx hb dX6_hasFigure_50 (by decide) ?_
        have hM : mm_W D d cB L m0 th ρ A H := hM
        exact ih (n + 1) (by omega) (by rw [← hyp]; rw [show mp_has ρ q (kk + 1) n = mp_has ρ q kk (n + 1) from by rw [mp_has, if_pos c_27]]) _ _ hM hS ls (lv_sub hl [0, 1, 2] rfl)
      · refine lv_aload_n hx hb dX6_hasFigure_30 rfl (lv_at hl 1 rfl) ?_
        refine mm_house hx hb hts (by decide +kernel) hown hKK.1 hM (hts (.fieldLink RX6 10 "WaxrowModel" "house" "LWaxrowModel$House;") (by decide +kernel)) dX6_hasFigure_31 ?_
        have hW := hM.2.1
        refine mh_get hx hb hts (by decide +kernel) hown hKK.1 hW 3 (by decide) (hts (.fieldLink RX6 60 "WaxrowModel$House" "figures" "[[I") (by decide +kernel)) rfl (v := .ref (L 4 0)) rfl dX6_hasFigure_34 ?_
        refine lv_iload_n hx hb dX6_hasFigure_37 rfl (lv_at hl 0 rfl) ?_
        refine mh_aald hx hb hKK.2.1 hW 4 n (by decide) (by decide) (by show n < mh_n 4; unfold mh_n; simp; omega) dX6_hasFigure_38 ?_
        refine lv_iconst (v := 0) hx hb dX6_hasFigure_39 (by decide) ?_
        refine mh_iald hx hb hKK.1 hW 14 n (by decide) (mh_ixR (k := 4) (by decide) (by decide) (by show n < mh_n 4; unfold mh_n; simp; omega)) (i := 0) (by unfold vp_in; decide) dX6_hasFigure_40 ?_
        rw [show (0 : Int32).toNatClampNeg = 0 from by decide]
        refine lv_iload_n hx hb dX6_hasFigure_41 rfl (lv_at hl 2 rfl) ?_
        refine lv_icmp_ne (tgt := 47) hx hb dX6_hasFigure_42 (by decide) (fun c_42 => ?_) (fun c_42 => ?_)
        · refine lv_iinc (v := nI (n + 1)) (lv' := [(2, .int (nI (n + 1))), (0, .ref m0), (1, .int q)]) hx hb dX6_hasFigure_47 hl (k := 0) rfl (nI_succ _).symm (by decide) rfl (fun ls hl => ?_)
          refine lv_goto (tgt := 2) hx hb dX6_hasFigure_50 (by decide) ?_
          have hM : mm_W D d cB L m0 th ρ A H := hM
          exact ih (n + 1) (by omega) (by rw [← hyp]; rw [show mp_has ρ q (kk + 1) n = mp_has ρ q kk (n + 1) from by rw [mp_has, if_neg c_27, if_neg c_42]]) _ _ hM hS ls (lv_sub hl [0, 1, 2] rfl)
        · refine lv_iconst (v := 1) hx hb dX6_hasFigure_45 (by decide) ?_
          exact W.zret (v := 1) (ty := .boolean) hx hb hr rfl (fun t ht hW9 => ⟨⟨1, (th, ρ), rfl, ⟨by rw [← hyp, mp_has, if_neg c_27, if_pos c_42], rfl, rfl⟩, by show mm_W D d cB L m0 _ _ A t.heap; rw [ht]; exact hM⟩, hS.F ht⟩) hS.2.2 dX6_hasFigure_46
set_option maxHeartbeats 4000000 in
set_option maxRecDepth 100000 in
/-- the reference: X6_hasFigure -/
theorem kX6_hasFigure (l : Launch) (D : va_G) (d : hs_Dm) (cB : ClassId) (L : hs_Lo) (m0 : Nat) (th : Int32) (ρ : hs_St) (A : Nat → Prop) (sz : Nat) (P F R : Nat) (hok : mh_ok P F R ρ) (q : Int32) : mm_Mi l yX6_hasFigure wsX6_hasFigure ({ frames := 0, cells := 0, slots := 0, locals := 0 } : Room) D d cB L m0 th ρ A sz [.ref m0, .int q] (fun r X => mp_has ρ q F 0 = r ∧ th = X.1 ∧ ρ = X.2) 0 0 := by
  refine Met.ofW (cc := cX6_hasFigure) (maxL := 3) (ret := (some .boolean)) (by decide) rfl ?_
  intro p e s m args below meth c0 s₁ B hml hv
  obtain ⟨rfl, hsz, hM, hKK⟩ := hv
  have hx := B.exec
  have hb := B.bytes
  have hr := B.returns
  have hts := atoms_spec (ws := wsX6_hasFigure) B.pre
  have hown : s.vm.findClass RX6 = some m.cls := findClass_of_methodNamed B.named
  have hlocks := B.notSynchronized
  have hS : va_S A s.heap s.heap [] := va_S.rf
  have hl := lv_entry ([.ref m0, .int q]) (n := 3) (Nat.le_of_ble_eq_true rfl)
  rw [lg_entry_eq]
  generalize (lg_sl ([.ref m0, .int q]) ++ List.replicate (3 - (lg_sl ([.ref m0, .int q])).length) Slot.unset).toArray = ls at hl ⊢
  have hl : lv_has ls 3 [(0, .ref m0), (1, .int q)] := hl
  refine lv_iconst (v := 0) hx hb dX6_hasFigure_0 (by decide) ?_
  refine lv_istore_n (lv' := [(2, .int 0), (0, .ref m0), (1, .int q)]) hx hb dX6_hasFigure_1 rfl hl (by decide) rfl (fun ls hl => ?_)
  exact lkX6_hasFigure l D d cB L m0 th ρ A sz P F R hok q hx hb hr hts hown hlocks hml hKK F 0 (by omega) rfl _ _ hM hS ls (lv_sub hl [0, 1, 2] rfl)
def mp_more (ρ : hs_St) (p b : Nat) : Int32 := mp_fame ρ p 0 6 - mp_fame ρ b 0 6
def mp_pick (ρ : hs_St) (n : Nat) : Option Nat → Option Nat
  | none => some n
  | some b => if 0 < mp_more ρ n b then some n else if mp_more ρ n b = 0 then (if mp_doubt ρ b ≤ mp_doubt ρ n then some b else some n) else some b
def mp_next (ρ : hs_St) (F : Nat) : Nat → Option Nat
  | 0 => none
  | n + 1 => if ρ 11 n 6 = 0 then mp_next ρ F n else if mp_has ρ (nI n) F 0 = 0 then mp_pick ρ n (mp_next ρ F n) else mp_next ρ F n
def mp_bi : Option Nat → Int32
  | none => -1
  | some b => nI b
theorem mp_next_lt (ρ : hs_St) (F : Nat) : ∀ n b, mp_next ρ F n = some b → b < n
  | 0, b, h => by cases h
  | n + 1, b, h => by
    have ih := mp_next_lt ρ F n
    rw [mp_next] at h
    split at h
    · have := ih b h; omega
    · split at h
      · cases e : mp_next ρ F n with
        | none => rw [e] at h; cases h; omega
        | some c =>
          have := ih c e
          rw [e] at h
          unfold mp_pick at h
          dsimp only at h
          split at h
          · cases h; omega
          · split at h
            · split at h
              · cases h; omega
              · cases h; omega
            · cases h; omega
      · have := ih b h; omega
theorem mp_bi_some {o : Option Nat} (h : ¬ mp_bi o = -1) : ∃ b, o = some b := by
  cases o with
  | none => exact absurd rfl h
  | some b => exact ⟨b, rfl⟩
theorem mp_bi_none {o : Option Nat} (h : mp_bi o = -1) (hb : ∀ b, o = some b → b < 2 ^ 31) : o = none := by
  cases o with
  | none => rfl
  | some b =>
    exfalso
    have h1 : nI b = -1 := h
    exact nI_pos (hb b rfl) (by rw [h1]; decide)
set_option maxHeartbeats 4000000 in
set_option maxRecDepth 100000 in
/-- the reference: X6_nextNow: the loop at 4 -/
theorem lkX6_nextNow (l : Launch) (D : va_G) (d : hs_Dm) (cB : ClassId) (L : hs_Lo) (m0 : Nat) (th : Int32) (ρ : hs_St) (A : Nat → Prop) (sz : Nat) (P F R : Nat) (hok : mh_ok P F R ρ) {p : Program} {e : Env} {s : State} {m : MethodId} {args : Array Value} {below : List Frame} {meth : Method} {c0 : Code} (hx : p.tables.exec = Jvm.exec) (hb : c0.code = cX6_nextNow) (hr : meth.sig.returnType = (some .int)) (hts : ∀ w ∈ wsX6_nextNow, w.before args s = true) (hown : s.vm.findClass RX6 = some m.cls) (hlocks : meth.locks = false) (hml : c0.maxLocals = 4) (hKK : mh_K D d cB s) : ∀ (kk n : Nat), n + kk = P → (∀ q, s.heap.size ≤ q → A q) → ∀ (H : Heap) (locs : List Loc), mm_W D d cB L m0 th ρ A H → va_S A s.heap H locs → ∀ ls : Array Slot, lv_has ls 4 [(2, .int (nI n)), (1, .int (mp_bi (mp_next ρ F n))), (0, .ref m0)] → W p l e (({ frames := 4, cells := 20, slots := 180, locals := 140 } : Room)) s m args below meth c0 H locs (2 * n) (18 * n) (MQ below (va_Qi (fun r X => mp_bi (mp_next ρ F P) = r ∧ th = X.1 ∧ ρ = X.2) (fun (X : mm_X) t => mm_W D d cB L m0 X.1 X.2 A t.heap) A) args s 20 180 A) (F0 m 4 ls []) := by
  intro kk
  induction kk with
  | zero =>
    intro n hn hAz H locs hM hS ls hl
    have hnN : n = P := by omega
    have hW := hM.2.1
    have h10 := hok.1
    refine lv_iload_n hx hb dX6_nextNow_4 rfl (lv_at hl 0 rfl) ?_
    refine lv_aload_n hx hb dX6_nextNow_5 rfl (lv_at hl 2 rfl) ?_
    refine mm_house hx hb hts (by decide +kernel) hown hKK.1 hM (hts (.fieldLink RX6 10 "WaxrowModel" "house" "LWaxrowModel$House;") (by decide +kernel)) dX6_nextNow_6 ?_
    have hW := hM.2.1
    refine mh_get hx hb hts (by decide +kernel) hown hKK.1 hW 6 (by decide) (hts (.fieldLink RX6 29 "WaxrowModel$House" "personCount" "I") (by decide +kernel)) rfl (v := .int (ρ 0 0 6)) rfl dX6_nextNow_9 ?_
    rw [show ρ 0 0 6 = nI P from hok.2.2.2.1]
    refine lv_icmp_ge (tgt := 103) hx hb dX6_nextNow_12 (by decide) (fun c_12 => ?_) (fun c_12 => ?_)
    · refine lv_iload_n hx hb dX6_nextNow_103 rfl (lv_at hl 1 rfl) ?_
      refine W.widen (k := 20) (n := 180) (by omega) (by omega) ?_
      exact W.iret (v := mp_bi (mp_next ρ F n)) hx hb hr (fun t ht hW9 => ⟨⟨mp_bi (mp_next ρ F n), (th, ρ), rfl, (by subst hnN; exact ⟨rfl, rfl, rfl⟩), by show mm_W D d cB L m0 _ _ A t.heap; rw [ht]; exact hM⟩, hS.F ht⟩) hS.2.2 dX6_nextNow_104
    · exact absurd (by rw [hnN]; exact nI_le (a := P) (b := P) (Nat.le_refl _) (by omega)) c_12
  | succ kk ih =>
    intro n hn hAz H locs hM hS ls hl
    have hnN : n < P := by omega
    have hW := hM.2.1
    have h10 := hok.1
    refine lv_iload_n hx hb dX6_nextNow_4 rfl (lv_at hl 0 rfl) ?_
    refine lv_aload_n hx hb dX6_nextNow_5 rfl (lv_at hl 2 rfl) ?_
    refine mm_house hx hb hts (by decide +kernel) hown hKK.1 hM (hts (.fieldLink RX6 10 "WaxrowModel" "house" "LWaxrowModel$House;") (by decide +kernel)) dX6_nextNow_6 ?_
    have hW := hM.2.1
    refine mh_get hx hb hts (by decide +kernel) hown hKK.1 hW 6 (by decide) (hts (.fieldLink RX6 29 "WaxrowModel$House" "personCount" "I") (by decide +kernel)) rfl (v := .int (ρ 0 0 6)) rfl dX6_nextNow_9 ?_
    rw [show ρ 0 0 6 = nI P from hok.2.2.2.1]
    refine lv_icmp_ge (tgt := 103) hx hb dX6_nextNow_12 (by decide) (fun c_12 => ?_) (fun c_12 => ?_)
    · exact absurd c_12 (nI_ge (b := P) hnN (by omega))
    · refine lv_aload_n hx hb dX6_nextNow_15 rfl (lv_at hl 2 rfl) ?_
      refine mm_house hx hb hts (by decide +kernel) hown hKK.1 hM (hts (.fieldLink RX6 10 "WaxrowModel" "house" "LWaxrowModel$House;") (by decide +kernel)) dX6_nextNow_16 ?_
      have hW := hM.2.1
      refine mh_get hx hb hts (by decide +kernel) hown hKK.1 hW 0 (by decide) (hts (.fieldLink RX6 46 "WaxrowModel$House" "persons" "[[I") (by decide +kernel)) rfl (v := .ref (L 1 0)) rfl dX6_nextNow_19 ?_
      refine lv_iload_n hx hb dX6_nextNow_22 rfl (lv_at hl 0 rfl) ?_
      refine mh_aald hx hb hKK.2.1 hW 1 n (by decide) (by decide) (by have := hok.1; show n < mh_n 1; unfold mh_n; simp; omega) dX6_nextNow_23 ?_
      refine lv_bipush (v := 6) hx hb dX6_nextNow_24 (by decide) ?_
      refine mh_iald hx hb hKK.1 hW 11 n (by decide) (mh_ixR (k := 1) (by decide) (by decide) (by have := hok.1; show n < mh_n 1; unfold mh_n; simp; omega)) (i := 6) (by unfold vp_in; decide) dX6_nextNow_26 ?_
      rw [show (6 : Int32).toNatClampNeg = 6 from by decide]
      refine lv_if_eq (tgt := 97) hx hb dX6_nextNow_27 (by decide) (fun c_27 => ?_) (fun c_27 => ?_)
      · refine lv_iinc (v := nI (n + 1)) (lv' := [(2, .int (nI (n + 1))), (1, .int (mp_bi (mp_next ρ F n))), (0, .ref m0)]) hx hb dX6_nextNow_97 hl (k := 0) rfl (nI_succ _).symm (by decide) rfl (fun ls hl => ?_)
        refine lv_goto (tgt := 4) hx hb dX6_nextNow_100 (by decide) ?_
        have hst : mp_next ρ F (n + 1) = mp_next ρ F n := if_pos c_27
        refine W.widen (k := 2 * (n + 1)) (n := 18 * (n + 1)) (by omega) (by omega) ?_
        exact ih (n + 1) (by omega) hAz _ _ hM hS ls (by rw [hst]; exact (lv_sub hl [0, 1, 2] rfl))
      · refine lv_aload_n hx hb dX6_nextNow_30 rfl (lv_at hl 2 rfl) ?_
        refine lv_iload_n hx hb dX6_nextNow_31 rfl (lv_at hl 0 rfl) ?_
        refine mm_calli (As := [.int (nI n)]) ⟨hx, hb, hml, hown, hts⟩ (kX6_hasFigure l D d cB L m0 (th : Int32) ρ A H.size P F R hok (nI n)) (cwV 1 hts gX6_nextNow_X6_hasFigure rfl rfl rfl (by decide +kernel) ⟨Nat.le_of_ble_eq_true rfl, Nat.le_of_ble_eq_true rfl⟩) hKK hM hS rfl hl.1 (Nat.le_of_ble_eq_true rfl) dX6_nextNow_32 ⟨by show _ ≤ 20; omega, by show _ ≤ 180; omega⟩ rfl (fun r_ X_ H locs hp hM hz hS => ?_)
        obtain ⟨t_, τ_⟩ := X_
        obtain ⟨e1_, e2_, e3_⟩ := hp
        have e2_ : (th : Int32) = t_ := e2_
        have e3_ : ρ = τ_ := e3_
        subst e1_ e2_ e3_
        have hM : mm_W D d cB L m0 th ρ A H := hM
        have hW := hM.2.1
        refine lv_if_eq (tgt := 41) hx hb dX6_nextNow_35 (by decide) (fun c_35 => ?_) (fun c_35 => ?_)
        · refine lv_iload_n hx hb dX6_nextNow_41 rfl (lv_at hl 1 rfl) ?_
          refine lv_iconst (v := (-1)) hx hb dX6_nextNow_42 (by decide) ?_
          refine lv_icmp_ne (tgt := 50) hx hb dX6_nextNow_43 (by decide) (fun c_43 => ?_) (fun c_43 => ?_)
          · obtain ⟨b, eb⟩ := mp_bi_some c_43
            have hbn := mp_next_lt ρ F n b eb
            rw [eb] at hl
            have hl : lv_has ls 4 [(2, .int (nI n)), (1, .int (nI b)), (0, .ref m0)] := hl
            refine lv_aload_n hx hb dX6_nextNow_50 rfl (lv_at hl 2 rfl) ?_
            refine lv_iload_n hx hb dX6_nextNow_51 rfl (lv_at hl 0 rfl) ?_
            refine lv_iconst (v := 0) hx hb dX6_nextNow_52 (by decide) ?_
            refine lv_bipush (v := 6) hx hb dX6_nextNow_53 (by decide) ?_
            refine mm_calli (As := [.int (nI n), .int 0, .int 6]) ⟨hx, hb, hml, hown, hts⟩ (kX6_fameNow l D d cB L m0 (th : Int32) ρ A H.size n (by omega) 0 (by decide) 6 (by decide) (fun q h => hAz q (Nat.le_trans hS.1 h))) (cwV 3 hts gX6_nextNow_X6_fameNow rfl rfl rfl (by decide +kernel) ⟨Nat.le_of_ble_eq_true rfl, Nat.le_of_ble_eq_true rfl⟩) hKK hM hS rfl hl.1 (Nat.le_of_ble_eq_true rfl) dX6_nextNow_55 ⟨by show _ ≤ 20; omega, by show _ ≤ 180; omega⟩ rfl (fun r_ X_ H locs hp hM hz hS => ?_)
            obtain ⟨t_, τ_⟩ := X_
            obtain ⟨e1_, e2_, e3_⟩ := hp
            have e2_ : (th : Int32) = t_ := e2_
            have e3_ : ρ = τ_ := e3_
            subst e1_ e2_ e3_
            have hM : mm_W D d cB L m0 th ρ A H := hM
            have hW := hM.2.1
            refine lv_aload_n hx hb dX6_nextNow_58 rfl (lv_at hl 2 rfl) ?_
            refine lv_iload_n hx hb dX6_nextNow_59 rfl (lv_at hl 1 rfl) ?_
            refine lv_iconst (v := 0) hx hb dX6_nextNow_60 (by decide) ?_
            refine lv_bipush (v := 6) hx hb dX6_nextNow_61 (by decide) ?_
            refine mm_calli (As := [.int (nI b), .int 0, .int 6]) ⟨hx, hb, hml, hown, hts⟩ (kX6_fameNow l D d cB L m0 (th : Int32) ρ A H.size b (by omega) 0 (by decide) 6 (by decide) (fun q h => hAz q (Nat.le_trans hS.1 h))) (cwV 3 hts gX6_nextNow_X6_fameNow rfl rfl rfl (by decide +kernel) ⟨Nat.le_of_ble_eq_true rfl, Nat.le_of_ble_eq_true rfl⟩) hKK hM hS rfl hl.1 (Nat.le_of_ble_eq_true rfl) dX6_nextNow_63 ⟨by show _ ≤ 20; omega, by show _ ≤ 180; omega⟩ rfl (fun r_ X_ H locs hp hM hz hS => ?_)
            obtain ⟨t_, τ_⟩ := X_
            obtain ⟨e1_, e2_, e3_⟩ := hp
            have e2_ : (th : Int32) = t_ := e2_
            have e3_ : ρ = τ_ := e3_
            subst e1_ e2_ e3_
            have hM : mm_W D d cB L m0 th ρ A H := hM
            have hW := hM.2.1
            refine lv_isub hx hb dX6_nextNow_66 ?_
            refine lv_istore_n (lv' := [(3, .int ((mp_fame ρ n 0 6) - (mp_fame ρ b 0 6))), (2, .int (nI n)), (1, .int (nI b)), (0, .ref m0)]) hx hb dX6_nextNow_67 rfl hl (by decide) rfl (fun ls hl => ?_)
            refine lv_iload_n hx hb dX6_nextNow_68 rfl (lv_at hl 0 rfl) ?_
            refine lv_if_gt (tgt := 95) hx hb dX6_nextNow_69 (by decide) (fun c_69 => ?_) (fun c_69 => ?_)
            · refine lv_iload_n hx hb dX6_nextNow_95 rfl (lv_at hl 1 rfl) ?_
              refine lv_istore_n (lv' := [(1, .int (nI n)), (3, .int ((mp_fame ρ n 0 6) - (mp_fame ρ b 0 6))), (2, .int (nI n)), (0, .ref m0)]) hx hb dX6_nextNow_96 rfl hl (by decide) rfl (fun ls hl => ?_)
              refine lv_iinc (v := nI (n + 1)) (lv' := [(2, .int (nI (n + 1))), (1, .int (nI n)), (3, .int ((mp_fame ρ n 0 6) - (mp_fame ρ b 0 6))), (0, .ref m0)]) hx hb dX6_nextNow_97 hl (k := 2) rfl (nI_succ _).symm (by decide) rfl (fun ls hl => ?_)
              refine lv_goto (tgt := 4) hx hb dX6_nextNow_100 (by decide) ?_
              have hst : mp_next ρ F (n + 1) = some n := by rw [mp_next, if_neg c_27, if_pos c_35, eb, mp_pick]; unfold mp_more; rw [if_pos c_69]
              refine W.widen (k := 2 * (n + 1)) (n := 18 * (n + 1)) (by omega) (by omega) ?_
              exact ih (n + 1) (by omega) hAz _ _ hM hS ls (by rw [hst]; exact (lv_sub hl [0, 1, 3] rfl))
            · refine lv_iload_n hx hb dX6_nextNow_72 rfl (lv_at hl 0 rfl) ?_
              refine lv_if_ne (tgt := 97) hx hb dX6_nextNow_73 (by decide) (fun c_73 => ?_) (fun c_73 => ?_)
              · refine lv_iinc (v := nI (n + 1)) (lv' := [(2, .int (nI (n + 1))), (3, .int ((mp_fame ρ n 0 6) - (mp_fame ρ b 0 6))), (1, .int (nI b)), (0, .ref m0)]) hx hb dX6_nextNow_97 hl (k := 1) rfl (nI_succ _).symm (by decide) rfl (fun ls hl => ?_)
                refine lv_goto (tgt := 4) hx hb dX6_nextNow_100 (by decide) ?_
                have hst : mp_next ρ F (n + 1) = some b := by rw [mp_next, if_neg c_27, if_pos c_35, eb, mp_pick]; unfold mp_more; rw [if_neg c_69, if_neg c_73]
                refine W.widen (k := 2 * (n + 1)) (n := 18 * (n + 1)) (by omega) (by omega) ?_
                exact ih (n + 1) (by omega) hAz _ _ hM hS ls (by rw [hst]; exact (lv_sub hl [0, 2, 3] rfl))
              · refine lv_aload_n hx hb dX6_nextNow_76 rfl (lv_at hl 3 rfl) ?_
                refine mm_house hx hb hts (by decide +kernel) hown hKK.1 hM (hts (.fieldLink RX6 10 "WaxrowModel" "house" "LWaxrowModel$House;") (by decide +kernel)) dX6_nextNow_77 ?_
                have hW := hM.2.1
                refine lv_iload_n hx hb dX6_nextNow_80 rfl (lv_at hl 1 rfl) ?_
                refine mh_callo (As := [.int (nI n)]) ⟨hx, hb, hml, hown, hts⟩ (kX5_doubt l D d cB L ρ (mh_own L) H.size n (by omega)) (cwV 1 hts gX6_nextNow_X5_doubt rfl rfl rfl (by decide +kernel) ⟨Nat.le_of_ble_eq_true rfl, Nat.le_of_ble_eq_true rfl⟩) hKK hW hS rfl hl.1 (Nat.le_of_ble_eq_true rfl) dX6_nextNow_81 ⟨by show _ ≤ 20; omega, by show _ ≤ 180; omega⟩ rfl (fun r_ τ_ H locs hp hW hz hqq hS => ?_)
                obtain ⟨e1_, e2_⟩ := hp
                subst e1_ e2_
                have hM : mm_W D d cB L m0 (th : Int32) ρ A H := ⟨hM.1.kept (hqq _ hM.1.lt (fun ⟨k9, i9, hx9, e9⟩ => hM.2.2.2 k9 i9 hx9 e9.symm)), hW, hM.2.2⟩
                refine lv_aload_n hx hb dX6_nextNow_84 rfl (lv_at hl 3 rfl) ?_
                refine mm_house hx hb hts (by decide +kernel) hown hKK.1 hM (hts (.fieldLink RX6 10 "WaxrowModel" "house" "LWaxrowModel$House;") (by decide +kernel)) dX6_nextNow_85 ?_
                have hW := hM.2.1
                refine lv_iload_n hx hb dX6_nextNow_88 rfl (lv_at hl 2 rfl) ?_
                refine mh_callo (As := [.int (nI b)]) ⟨hx, hb, hml, hown, hts⟩ (kX5_doubt l D d cB L ρ (mh_own L) H.size b (by omega)) (cwV 1 hts gX6_nextNow_X5_doubt rfl rfl rfl (by decide +kernel) ⟨Nat.le_of_ble_eq_true rfl, Nat.le_of_ble_eq_true rfl⟩) hKK hW hS rfl hl.1 (Nat.le_of_ble_eq_true rfl) dX6_nextNow_89 ⟨by show _ ≤ 20; omega, by show _ ≤ 180; omega⟩ rfl (fun r_ τ_ H locs hp hW hz hqq hS => ?_)
                obtain ⟨e1_, e2_⟩ := hp
                subst e1_ e2_
                have hM : mm_W D d cB L m0 (th : Int32) ρ A H := ⟨hM.1.kept (hqq _ hM.1.lt (fun ⟨k9, i9, hx9, e9⟩ => hM.2.2.2 k9 i9 hx9 e9.symm)), hW, hM.2.2⟩
                refine lv_icmp_ge (tgt := 97) hx hb dX6_nextNow_92 (by decide) (fun c_92 => ?_) (fun c_92 => ?_)
                · refine lv_iinc (v := nI (n + 1)) (lv' := [(2, .int (nI (n + 1))), (3, .int ((mp_fame ρ n 0 6) - (mp_fame ρ b 0 6))), (1, .int (nI b)), (0, .ref m0)]) hx hb dX6_nextNow_97 hl (k := 1) rfl (nI_succ _).symm (by decide) rfl (fun ls hl => ?_)
                  refine lv_goto (tgt := 4) hx hb dX6_nextNow_100 (by decide) ?_
                  have hst : mp_next ρ F (n + 1) = some b := by rw [mp_next, if_neg c_27, if_pos c_35, eb, mp_pick]; unfold mp_more; rw [if_neg c_69, if_pos c_73, if_pos c_92]
                  refine W.widen (k := 2 * (n + 1)) (n := 18 * (n + 1)) (by omega) (by omega) ?_
                  exact ih (n + 1) (by omega) hAz _ _ hM hS ls (by rw [hst]; exact (lv_sub hl [0, 2, 3] rfl))
                · refine lv_iload_n hx hb dX6_nextNow_95 rfl (lv_at hl 1 rfl) ?_
                  refine lv_istore_n (lv' := [(1, .int (nI n)), (3, .int ((mp_fame ρ n 0 6) - (mp_fame ρ b 0 6))), (2, .int (nI n)), (0, .ref m0)]) hx hb dX6_nextNow_96 rfl hl (by decide) rfl (fun ls hl => ?_)
                  refine lv_iinc (v := nI (n + 1)) (lv' := [(2, .int (nI (n + 1))), (1, .int (nI n)), (3, .int ((mp_fame ρ n 0 6) - (mp_fame ρ b 0 6))), (0, .ref m0)]) hx hb dX6_nextNow_97 hl (k := 2) rfl (nI_succ _).symm (by decide) rfl (fun ls hl => ?_)
                  refine lv_goto (tgt := 4) hx hb dX6_nextNow_100 (by decide) ?_
                  have hst : mp_next ρ F (n + 1) = some n := by rw [mp_next, if_neg c_27, if_pos c_35, eb, mp_pick]; unfold mp_more; rw [if_neg c_69, if_pos c_73, if_neg c_92]
                  refine W.widen (k := 2 * (n + 1)) (n := 18 * (n + 1)) (by omega) (by omega) ?_
                  exact ih (n + 1) (by omega) hAz _ _ hM hS ls (by rw [hst]; exact (lv_sub hl [0, 1, 3] rfl))
          · have eb : mp_next ρ F n = none := mp_bi_none c_43 (fun b e => by have := mp_next_lt ρ F n b e; omega)
            refine lv_iconst (v := 1) hx hb dX6_nextNow_46 (by decide) ?_
            refine lv_goto (tgt := 67) hx hb dX6_nextNow_47 (by decide) ?_
            refine lv_istore_n (lv' := [(3, .int 1), (2, .int (nI n)), (1, .int (mp_bi (mp_next ρ F n))), (0, .ref m0)]) hx hb dX6_nextNow_67 rfl hl (by decide) rfl (fun ls hl => ?_)
            refine lv_iload_n hx hb dX6_nextNow_68 rfl (lv_at hl 0 rfl) ?_
            refine lv_if_gt (tgt := 95) hx hb dX6_nextNow_69 (by decide) (fun c_69 => ?_) (fun c_69 => ?_)
            · refine lv_iload_n hx hb dX6_nextNow_95 rfl (lv_at hl 1 rfl) ?_
              refine lv_istore_n (lv' := [(1, .int (nI n)), (3, .int 1), (2, .int (nI n)), (0, .ref m0)]) hx hb dX6_nextNow_96 rfl hl (by decide) rfl (fun ls hl => ?_)
              refine lv_iinc (v := nI (n + 1)) (lv' := [(2, .int (nI (n + 1))), (1, .int (nI n)), (3, .int 1), (0, .ref m0)]) hx hb dX6_nextNow_97 hl (k := 2) rfl (nI_succ _).symm (by decide) rfl (fun ls hl => ?_)
              refine lv_goto (tgt := 4) hx hb dX6_nextNow_100 (by decide) ?_
              have hst : mp_next ρ F (n + 1) = some n := by rw [mp_next, if_neg c_27, if_pos c_35, eb]; rfl
              refine W.widen (k := 2 * (n + 1)) (n := 18 * (n + 1)) (by omega) (by omega) ?_
              exact ih (n + 1) (by omega) hAz _ _ hM hS ls (by rw [hst]; exact (lv_sub hl [0, 1, 3] rfl))
            · exact absurd (by decide +kernel) c_69
        · refine lv_goto (tgt := 97) hx hb dX6_nextNow_38 (by decide) ?_
          refine lv_iinc (v := nI (n + 1)) (lv' := [(2, .int (nI (n + 1))), (1, .int (mp_bi (mp_next ρ F n))), (0, .ref m0)]) hx hb dX6_nextNow_97 hl (k := 0) rfl (nI_succ _).symm (by decide) rfl (fun ls hl => ?_)
          refine lv_goto (tgt := 4) hx hb dX6_nextNow_100 (by decide) ?_
          have hst : mp_next ρ F (n + 1) = mp_next ρ F n := (if_neg c_27).trans (if_neg c_35)
          refine W.widen (k := 2 * (n + 1)) (n := 18 * (n + 1)) (by omega) (by omega) ?_
          exact ih (n + 1) (by omega) hAz _ _ hM hS ls (by rw [hst]; exact (lv_sub hl [0, 1, 2] rfl))
set_option maxHeartbeats 4000000 in
set_option maxRecDepth 100000 in
/-- the reference: X6_nextNow -/
theorem kX6_nextNow (l : Launch) (D : va_G) (d : hs_Dm) (cB : ClassId) (L : hs_Lo) (m0 : Nat) (th : Int32) (ρ : hs_St) (A : Nat → Prop) (sz : Nat) (P F R : Nat) (hok : mh_ok P F R ρ) (hA : mh_A A sz) : mm_Mi l yX6_nextNow wsX6_nextNow ({ frames := 4, cells := 20, slots := 180, locals := 140 } : Room) D d cB L m0 th ρ A sz [.ref m0] (fun r X => mp_bi (mp_next ρ F P) = r ∧ th = X.1 ∧ ρ = X.2) 20 180 := by
  refine Met.ofW (cc := cX6_nextNow) (maxL := 4) (ret := (some .int)) (by decide) rfl ?_
  intro p e s m args below meth c0 s₁ B hml hv
  obtain ⟨rfl, hsz, hM, hKK⟩ := hv
  have hx := B.exec
  have hb := B.bytes
  have hr := B.returns
  have hts := atoms_spec (ws := wsX6_nextNow) B.pre
  have hown : s.vm.findClass RX6 = some m.cls := findClass_of_methodNamed B.named
  have hlocks := B.notSynchronized
  have hS : va_S A s.heap s.heap [] := va_S.rf
  have hl := lv_entry ([.ref m0]) (n := 4) (Nat.le_of_ble_eq_true rfl)
  rw [lg_entry_eq]
  generalize (lg_sl ([.ref m0]) ++ List.replicate (4 - (lg_sl ([.ref m0])).length) Slot.unset).toArray = ls at hl ⊢
  have hl : lv_has ls 4 [(0, .ref m0)] := hl
  have hAz : ∀ q, s.heap.size ≤ q → A q := fun q h9 => hA q (by rw [hsz] at h9; exact h9)
  refine lv_iconst (v := (-1)) hx hb dX6_nextNow_0 (by decide) ?_
  refine lv_istore_n (lv' := [(1, .int (-1)), (0, .ref m0)]) hx hb dX6_nextNow_1 rfl hl (by decide) rfl (fun ls hl => ?_)
  refine lv_iconst (v := 0) hx hb dX6_nextNow_2 (by decide) ?_
  refine lv_istore_n (lv' := [(2, .int 0), (1, .int (-1)), (0, .ref m0)]) hx hb dX6_nextNow_3 rfl hl (by decide) rfl (fun ls hl => ?_)
  exact lkX6_nextNow l D d cB L m0 th ρ A sz P F R hok hx hb hr hts hown hlocks hml hKK P 0 (by omega) hAz _ _ hM hS ls (lv_sub hl [0, 1, 2] rfl)
set_option maxHeartbeats 4000000 in
set_option maxRecDepth 100000 in
/-- the reference: X6_bestNext -/
theorem kX6_bestNext (l : Launch) (D : va_G) (d : hs_Dm) (cB : ClassId) (L : hs_Lo) (m0 : Nat) (th : Int32) (ρ : hs_St) (A : Nat → Prop) (sz : Nat) (P F R : Nat) (hok : mh_ok P F R ρ) (hA : mh_A A sz) : mm_Mi l yX6_bestNext wsX6_bestNext ({ frames := 5, cells := 20, slots := 180, locals := 180 } : Room) D d cB L m0 th ρ A sz [.ref m0] (fun r X => mp_bi (mp_next ρ F P) = r ∧ (0 : Int32) = X.1 ∧ ρ = X.2) 20 180 := by
  refine Met.ofW (cc := cX6_bestNext) (maxL := 1) (ret := (some .int)) (by decide) rfl ?_
  intro p e s m args below meth c0 s₁ B hml hv
  obtain ⟨rfl, hsz, hM, hKK⟩ := hv
  have hx := B.exec
  have hb := B.bytes
  have hr := B.returns
  have hts := atoms_spec (ws := wsX6_bestNext) B.pre
  have hown : s.vm.findClass RX6 = some m.cls := findClass_of_methodNamed B.named
  have hlocks := B.notSynchronized
  have hS : va_S A s.heap s.heap [] := va_S.rf
  have hl := lv_entry ([.ref m0]) (n := 1) (Nat.le_of_ble_eq_true rfl)
  rw [lg_entry_eq]
  generalize (lg_sl ([.ref m0]) ++ List.replicate (1 - (lg_sl ([.ref m0])).length) Slot.unset).toArray = ls at hl ⊢
  have hl : lv_has ls 1 [(0, .ref m0)] := hl
  have hAz : ∀ q, s.heap.size ≤ q → A q := fun q h9 => hA q (by rw [hsz] at h9; exact h9)
  refine lv_aload_n hx hb dX6_bestNext_0 rfl (lv_at hl 0 rfl) ?_
  refine lv_iconst (v := 0) hx hb dX6_bestNext_1 (by decide) ?_
  refine mm_putt hx hb hts (by decide +kernel) hown hKK.1 hM hS (hts (.fieldLink RX6 16 "WaxrowModel" "thrown" "I") (by decide +kernel)) (0 : Int32) dX6_bestNext_2 (fun H locs hM hS hz => ?_)
  have hM : mm_W D d cB L m0 0 ρ A H := hM
  have hW := hM.2.1
  refine lv_aload_n hx hb dX6_bestNext_5 rfl (lv_at hl 0 rfl) ?_
  refine mm_calli (As := []) ⟨hx, hb, hml, hown, hts⟩ (kX6_nextNow l D d cB L m0 (0 : Int32) ρ A H.size P F R hok (fun q h => hAz q (Nat.le_trans hS.1 h))) (cwV 0 hts gX6_bestNext_X6_nextNow rfl rfl rfl (by decide +kernel) ⟨Nat.le_of_ble_eq_true rfl, Nat.le_of_ble_eq_true rfl⟩) hKK hM hS rfl hl.1 (Nat.le_of_ble_eq_true rfl) dX6_bestNext_6 ⟨Nat.le_of_ble_eq_true rfl, Nat.le_of_ble_eq_true rfl⟩ rfl (fun r_ X_ H locs hp hM hz hS => ?_)
  obtain ⟨t_, τ_⟩ := X_
  obtain ⟨e1_, e2_, e3_⟩ := hp
  have e2_ : (0 : Int32) = t_ := e2_
  have e3_ : ρ = τ_ := e3_
  subst e1_ e2_ e3_
  have hM : mm_W D d cB L m0 0 ρ A H := hM
  have hW := hM.2.1
  refine W.widen (k := 20) (n := 180) (by omega) (by omega) ?_
  exact W.iret (v := mp_bi (mp_next ρ F P)) hx hb hr (fun t ht hW9 => ⟨⟨mp_bi (mp_next ρ F P), (0, ρ), rfl, ⟨rfl, rfl, rfl⟩, by show mm_W D d cB L m0 _ _ A t.heap; rw [ht]; exact hM⟩, hS.F ht⟩) hS.2.2 dX6_bestNext_9
