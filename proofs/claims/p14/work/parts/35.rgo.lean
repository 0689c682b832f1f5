/-! THE REFERENCE'S go -/
theorem mp_wadvs_le {P F R : Nat} {ρ : hs_St} (h : mh_ok P F R ρ) : ∀ n, n ≤ F → mp_wadvs ρ n ≤ 6 * n
  | 0, _ => Nat.le_refl _
  | n + 1, hn => by
    have ih := mp_wadvs_le h n (by omega)
    unfold mp_wadvs
    split
    · omega
    · split
      · omega
      · obtain ⟨-, -, ⟨i, hi, ei⟩, -⟩ := (h.works n (by omega)).2.2.2.2.2.2 n (by omega)
        have := (mp_work_2 (mp_works ρ n).2 n i hi ei).1
        omega
theorem mp_wadvs_mono (ρ : hs_St) (n : Nat) : ∀ m, n ≤ m → mp_wadvs ρ n ≤ mp_wadvs ρ m
  | 0, h => by rw [show n = 0 by omega]; exact Nat.le_refl _
  | m + 1, h => by
    by_cases e : n = m + 1
    · rw [e]; exact Nat.le_refl _
    · have ih := mp_wadvs_mono ρ n m (by omega)
      rw [show mp_wadvs ρ (m + 1) = if 6 ≤ (mp_works ρ m).2 14 m 2 then mp_wadvs ρ m else if (mp_works ρ m).2 14 m 7 = 7 then mp_wadvs ρ m else mp_wadvs ρ m + mp_wadv (mp_works ρ m).2 m from rfl]
      split
      · exact ih
      · split
        · exact ih
        · omega
set_option maxHeartbeats 4000000 in
set_option maxRecDepth 100000 in
/-- the reference: go: the loop at 37 -/
theorem lkX5_go37 {p : Program} {l : Launch} {e : Env} {s : State} {m : MethodId} {args : Array Value} {below : List Frame} {meth : Method} {c0 : Code} {Q : State → Prop} {cells slots : Nat} {D : va_G} {d : hs_Dm} {cB : ClassId} {L : hs_Lo} {A : Nat → Prop} {KC KS : Nat} (P F R : Nat) (ρ : hs_St) (hok : mh_ok P F R ρ) (q : Nat) (hq : q < P) (x z many : Int32) (hx : p.tables.exec = Jvm.exec) (hb : c0.code = cX5_go) (hr : meth.sig.returnType = (some .int)) (hts : ∀ w ∈ wsX5_go, w.before args s = true) (hown : s.vm.findClass RX5 = some m.cls) (hlocks : meth.locks = false) (hml : c0.maxLocals = 8) (hKK : mh_K D d cB s) (hcs : cells ≤ KC ∧ slots ≤ KS) (kK : ∀ (H : Heap) (locs : List Loc), mh_W D d.1 cB L (mp_mons ρ q 3) A H → va_S A s.heap H locs → ∀ ls : Array Slot, lv_has ls 8 [(4, .int (nI q)), (3, .int many), (0, .ref (L 0 0)), (1, .int x), (2, .int z)] → W p l e ({ frames := 5, cells := KC, slots := KS, locals := 150 } : Room) s m args below meth c0 H locs cells slots Q (F0 m 61 ls [])) : ∀ (kk n : Nat), n + kk = 3 → ∀ (H : Heap) (locs : List Loc), mh_W D d.1 cB L (mp_mons ρ q n) A H → va_S A s.heap H locs → ∀ ls : Array Slot, lv_has ls 8 [(5, .int (nI n)), (4, .int (nI q)), (3, .int many), (0, .ref (L 0 0)), (1, .int x), (2, .int z)] → W p l e ({ frames := 5, cells := KC, slots := KS, locals := 150 } : Room) s m args below meth c0 H locs cells slots Q (F0 m 37 ls []) := by
  intro kk
  induction kk with
  | zero =>
    intro n hn H locs hW hS ls hl
    have hnN : n = 3 := by omega
    have h10 := hok.1
    refine lv_iload hx hb dX5_go_37 (lv_at hl 0 rfl) ?_
    refine lv_iconst (v := 3) hx hb dX5_go_39 (by decide) ?_
    refine lv_icmp_ge (tgt := 61) hx hb dX5_go_40 (by decide) (fun c_40 => ?_) (fun c_40 => ?_)
    · subst hnN
      exact kK _ _ hW hS ls (lv_sub hl [1, 2, 3, 4, 5] rfl)
    · exact absurd (by rw [hnN]; exact nI_le (a := 3) (b := 3) (Nat.le_refl _) (by omega)) c_40
  | succ kk ih =>
    intro n hn H locs hW hS ls hl
    have hnN : n < 3 := by omega
    have h10 := hok.1
    refine lv_iload hx hb dX5_go_37 (lv_at hl 0 rfl) ?_
    refine lv_iconst (v := 3) hx hb dX5_go_39 (by decide) ?_
    refine lv_icmp_ge (tgt := 61) hx hb dX5_go_40 (by decide) (fun c_40 => ?_) (fun c_40 => ?_)
    · exact absurd c_40 (nI_ge (b := 3) hnN (by omega))
    · refine lv_aload_n hx hb dX5_go_43 rfl (lv_at hl 3 rfl) ?_
      refine mh_get hx hb hts (by decide +kernel) hown hKK.1 hW 0 (by decide) (hts (.fieldLink RX5 11 "WaxrowModel$House" "persons" "[[I") (by decide +kernel)) rfl (v := .ref (L 1 0)) rfl dX5_go_44 ?_
      refine lv_iload hx hb dX5_go_47 (lv_at hl 1 rfl) ?_
      refine mh_aald hx hb hKK.2.1 hW 1 q (by decide) (by decide) (by have := hok.1; show q < mh_n 1; unfold mh_n; simp; omega) dX5_go_49 ?_
      refine lv_iload hx hb dX5_go_50 (lv_at hl 0 rfl) ?_
      refine mh_mon ⟨hx, hb, hml, hown, hts⟩ (by omega) (by omega) (va_cwS 2 hts gX5_go_X5_month rfl rfl rfl (by decide +kernel) ⟨Nat.le_of_ble_eq_true rfl, Nat.le_of_ble_eq_true rfl⟩) hKK hW hS rfl hl.1 (Nat.le_of_ble_eq_true rfl) dX5_go_52 hcs rfl (fun H locs hW hz hS => ?_)
      have hW : mh_W D d.1 cB L (mp_mons ρ q (n + 1)) A H := hW
      refine lv_iinc (v := nI (n + 1)) (lv' := [(5, .int (nI (n + 1))), (4, .int (nI q)), (3, .int many), (0, .ref (L 0 0)), (1, .int x), (2, .int z)]) hx hb dX5_go_55 hl (k := 0) rfl (nI_succ _).symm (by decide) rfl (fun ls hl => ?_)
      refine lv_goto (tgt := 37) hx hb dX5_go_58 (by decide) ?_
      exact ih (n + 1) (by omega) _ _ hW hS ls (lv_sub hl [0, 1, 2, 3, 4, 5] rfl)
set_option maxHeartbeats 4000000 in
set_option maxRecDepth 100000 in
/-- the reference: go: the loop at 25 -/
theorem lkX5_go25 {p : Program} {l : Launch} {e : Env} {s : State} {m : MethodId} {args : Array Value} {below : List Frame} {meth : Method} {c0 : Code} {Q : State → Prop} {cells slots : Nat} {D : va_G} {d : hs_Dm} {cB : ClassId} {L : hs_Lo} {A : Nat → Prop} {KC KS : Nat} (P F R : Nat) (ρ : hs_St) (hok : mh_ok P F R ρ) (x z many : Int32) (hx : p.tables.exec = Jvm.exec) (hb : c0.code = cX5_go) (hr : meth.sig.returnType = (some .int)) (hts : ∀ w ∈ wsX5_go, w.before args s = true) (hown : s.vm.findClass RX5 = some m.cls) (hlocks : meth.locks = false) (hml : c0.maxLocals = 8) (hKK : mh_K D d cB s) (hcs : cells ≤ KC ∧ slots ≤ KS) (kK : ∀ (H : Heap) (locs : List Loc), mh_W D d.1 cB L (mp_monAll ρ P) A H → va_S A s.heap H locs → ∀ ls : Array Slot, lv_has ls 8 [(3, .int many), (0, .ref (L 0 0)), (1, .int x), (2, .int z)] → W p l e ({ frames := 5, cells := KC, slots := KS, locals := 150 } : Room) s m args below meth c0 H locs cells slots Q (F0 m 67 ls [])) : ∀ (kk n : Nat), n + kk = P → ∀ (H : Heap) (locs : List Loc), mh_W D d.1 cB L (mp_monAll ρ n) A H → va_S A s.heap H locs → ∀ ls : Array Slot, lv_has ls 8 [(4, .int (nI n)), (3, .int many), (0, .ref (L 0 0)), (1, .int x), (2, .int z)] → W p l e ({ frames := 5, cells := KC, slots := KS, locals := 150 } : Room) s m args below meth c0 H locs cells slots Q (F0 m 25 ls []) := by
  intro kk
  induction kk with
  | zero =>
    intro n hn H locs hW hS ls hl
    have hnN : n = P := by omega
    have h10 := hok.1
    refine lv_iload hx hb dX5_go_25 (lv_at hl 0 rfl) ?_
    refine lv_aload_n hx hb dX5_go_27 rfl (lv_at hl 2 rfl) ?_
    refine mh_get hx hb hts (by decide +kernel) hown hKK.1 hW 6 (by decide) (hts (.fieldLink RX5 53 "WaxrowModel$House" "personCount" "I") (by decide +kernel)) rfl (v := .int ((mp_monAll ρ n) 0 0 6)) rfl dX5_go_28 ?_
    rw [show (mp_monAll ρ n) 0 0 6 = nI P from (hok.monAll n).2.2.2.1]
    refine lv_icmp_ge (tgt := 67) hx hb dX5_go_31 (by decide) (fun c_31 => ?_) (fun c_31 => ?_)
    · subst hnN
      exact kK _ _ hW hS ls (lv_sub hl [1, 2, 3, 4] rfl)
    · exact absurd (by rw [hnN]; exact nI_le (a := P) (b := P) (Nat.le_refl _) (by omega)) c_31
  | succ kk ih =>
    intro n hn H locs hW hS ls hl
    have hnN : n < P := by omega
    have h10 := hok.1
    refine lv_iload hx hb dX5_go_25 (lv_at hl 0 rfl) ?_
    refine lv_aload_n hx hb dX5_go_27 rfl (lv_at hl 2 rfl) ?_
    refine mh_get hx hb hts (by decide +kernel) hown hKK.1 hW 6 (by decide) (hts (.fieldLink RX5 53 "WaxrowModel$House" "personCount" "I") (by decide +kernel)) rfl (v := .int ((mp_monAll ρ n) 0 0 6)) rfl dX5_go_28 ?_
    rw [show (mp_monAll ρ n) 0 0 6 = nI P from (hok.monAll n).2.2.2.1]
    refine lv_icmp_ge (tgt := 67) hx hb dX5_go_31 (by decide) (fun c_31 => ?_) (fun c_31 => ?_)
    · exact absurd c_31 (nI_ge (b := P) hnN (by omega))
    · refine lv_iconst (v := 0) hx hb dX5_go_34 (by decide) ?_
      refine lv_istore (lv' := [(5, .int 0), (4, .int (nI n)), (3, .int many), (0, .ref (L 0 0)), (1, .int x), (2, .int z)]) hx hb dX5_go_35 hl (by decide) rfl (fun ls hl => ?_)
      refine lkX5_go37 P F R (mp_monAll ρ n) (hok.monAll n) n hnN x z many hx hb hr hts hown hlocks hml hKK hcs (fun H locs hW hS ls hl => ?_) 3 0 (by omega) _ _ hW hS ls (lv_sub hl [0, 1, 2, 3, 4, 5] rfl)
      refine lv_iinc (v := nI (n + 1)) (lv' := [(4, .int (nI (n + 1))), (3, .int many), (0, .ref (L 0 0)), (1, .int x), (2, .int z)]) hx hb dX5_go_61 hl (k := 0) rfl (nI_succ _).symm (by decide) rfl (fun ls hl => ?_)
      refine lv_goto (tgt := 25) hx hb dX5_go_64 (by decide) ?_
      exact ih (n + 1) (by omega) _ _ hW hS ls (lv_sub hl [0, 1, 2, 3, 4] rfl)
set_option maxHeartbeats 4000000 in
set_option maxRecDepth 100000 in
/-- the reference: go: the loop at 70 -/
theorem lkX5_go70 {p : Program} {l : Launch} {e : Env} {s : State} {m : MethodId} {args : Array Value} {below : List Frame} {meth : Method} {c0 : Code} {Q : State → Prop} {cells slots : Nat} {D : va_G} {d : hs_Dm} {cB : ClassId} {L : hs_Lo} {A : Nat → Prop} {KC KS : Nat} (P F R : Nat) (ρ : hs_St) (hok : mh_ok P F R ρ) (x z : Int32) (hAz : ∀ q, s.heap.size ≤ q → A q) (hx : p.tables.exec = Jvm.exec) (hb : c0.code = cX5_go) (hr : meth.sig.returnType = (some .int)) (hts : ∀ w ∈ wsX5_go, w.before args s = true) (hown : s.vm.findClass RX5 = some m.cls) (hlocks : meth.locks = false) (hml : c0.maxLocals = 8) (hKK : mh_K D d cB s) (hcs : cells + mp_wadvs ρ F ≤ KC ∧ slots + 7 * mp_wadvs ρ F ≤ KS) (kK : ∀ (H : Heap) (locs : List Loc), mh_W D d.1 cB L ((mp_works ρ F).2) A H → va_S A s.heap H locs → ∀ ls : Array Slot, lv_has ls 8 [(3, .int ((mp_works ρ F).1)), (0, .ref (L 0 0)), (1, .int x), (2, .int z)] → W p l e ({ frames := 5, cells := KC, slots := KS, locals := 150 } : Room) s m args below meth c0 H locs (cells + mp_wadvs ρ F) (slots + 7 * mp_wadvs ρ F) Q (F0 m 132 ls [])) : ∀ (kk n : Nat), n + kk = F → ∀ (H : Heap) (locs : List Loc), mh_W D d.1 cB L ((mp_works ρ n).2) A H → va_S A s.heap H locs → ∀ ls : Array Slot, lv_has ls 8 [(4, .int (nI n)), (3, .int ((mp_works ρ n).1)), (0, .ref (L 0 0)), (1, .int x), (2, .int z)] → W p l e ({ frames := 5, cells := KC, slots := KS, locals := 150 } : Room) s m args below meth c0 H locs (cells + mp_wadvs ρ n) (slots + 7 * mp_wadvs ρ n) Q (F0 m 70 ls []) := by
  intro kk
  induction kk with
  | zero =>
    intro n hn H locs hW hS ls hl
    have hnN : n = F := by omega
    have hF8 := hok.2.1
    have h10 := hok.1
    refine lv_iload hx hb dX5_go_70 (lv_at hl 0 rfl) ?_
    refine lv_aload_n hx hb dX5_go_72 rfl (lv_at hl 2 rfl) ?_
    refine mh_get hx hb hts (by decide +kernel) hown hKK.1 hW 7 (by decide) (hts (.fieldLink RX5 56 "WaxrowModel$House" "figureCount" "I") (by decide +kernel)) rfl (v := .int (((mp_works ρ n).2) 0 0 7)) rfl dX5_go_73 ?_
    rw [show ((mp_works ρ n).2) 0 0 7 = nI F from (hok.works n (by omega)).2.2.2.2.1]
    refine lv_icmp_ge (tgt := 132) hx hb dX5_go_76 (by decide) (fun c_76 => ?_) (fun c_76 => ?_)
    · subst hnN
      exact kK _ _ hW hS ls (lv_sub hl [1, 2, 3, 4] rfl)
    · exact absurd (by rw [hnN]; exact nI_le (a := F) (b := F) (Nat.le_refl _) (by omega)) c_76
  | succ kk ih =>
    intro n hn H locs hW hS ls hl
    have hnN : n < F := by omega
    have hF8 := hok.2.1
    have h10 := hok.1
    refine lv_iload hx hb dX5_go_70 (lv_at hl 0 rfl) ?_
    refine lv_aload_n hx hb dX5_go_72 rfl (lv_at hl 2 rfl) ?_
    refine mh_get hx hb hts (by decide +kernel) hown hKK.1 hW 7 (by decide) (hts (.fieldLink RX5 56 "WaxrowModel$House" "figureCount" "I") (by decide +kernel)) rfl (v := .int (((mp_works ρ n).2) 0 0 7)) rfl dX5_go_73 ?_
    rw [show ((mp_works ρ n).2) 0 0 7 = nI F from (hok.works n (by omega)).2.2.2.2.1]
    refine lv_icmp_ge (tgt := 132) hx hb dX5_go_76 (by decide) (fun c_76 => ?_) (fun c_76 => ?_)
    · exact absurd c_76 (nI_ge (b := F) hnN (by omega))
    · refine lv_iload_n hx hb dX5_go_79 rfl (lv_at hl 1 rfl) ?_
      refine lv_aload_n hx hb dX5_go_80 rfl (lv_at hl 2 rfl) ?_
      refine mh_get hx hb hts (by decide +kernel) hown hKK.1 hW 3 (by decide) (hts (.fieldLink RX5 22 "WaxrowModel$House" "figures" "[[I") (by decide +kernel)) rfl (v := .ref (L 4 0)) rfl dX5_go_81 ?_
      refine lv_iload hx hb dX5_go_84 (lv_at hl 0 rfl) ?_
      refine mh_aald hx hb hKK.2.1 hW 4 n (by decide) (by decide) (by show n < mh_n 4; unfold mh_n; simp; omega) dX5_go_86 ?_
      refine lv_iconst (v := 2) hx hb dX5_go_87 (by decide) ?_
      refine mh_iald hx hb hKK.1 hW 14 n (by decide) (mh_ixR (k := 4) (by decide) (by decide) (by show n < mh_n 4; unfold mh_n; simp; omega)) (i := 2) (by unfold vp_in; decide) dX5_go_88 ?_
      rw [show (2 : Int32).toNatClampNeg = 2 from by decide]
      refine lv_bipush (v := 6) hx hb dX5_go_89 (by decide) ?_
      refine lv_icmp_ge (tgt := 123) hx hb dX5_go_91 (by decide) (fun c_91 => ?_) (fun c_91 => ?_)
      · refine lv_iconst (v := 0) hx hb dX5_go_123 (by decide) ?_
        refine lv_iadd hx hb dX5_go_124 ?_
        refine lv_istore_n (lv' := [(3, .int (((mp_works ρ n).1) + 0)), (4, .int (nI n)), (0, .ref (L 0 0)), (1, .int x), (2, .int z)]) hx hb dX5_go_125 rfl hl (by decide) rfl (fun ls hl => ?_)
        refine lv_iinc (v := nI (n + 1)) (lv' := [(4, .int (nI (n + 1))), (3, .int (((mp_works ρ n).1) + 0)), (0, .ref (L 0 0)), (1, .int x), (2, .int z)]) hx hb dX5_go_126 hl (k := 1) rfl (nI_succ _).symm (by decide) rfl (fun ls hl => ?_)
        refine lv_goto (tgt := 70) hx hb dX5_go_129 (by decide) ?_
        have hst : mp_works ρ (n + 1) = (((mp_works ρ n).1) + 0, (mp_works ρ n).2) := if_pos c_91
        have hwv : mp_wadvs ρ (n + 1) = mp_wadvs ρ n := if_pos c_91
        refine W.widen (k := cells + mp_wadvs ρ (n + 1)) (n := slots + 7 * mp_wadvs ρ (n + 1)) (by omega) (by omega) ?_
        exact ih (n + 1) (by omega) _ _ (by rw [hst]; exact hW) hS ls (by rw [hst]; exact (lv_sub hl [0, 1, 2, 3, 4] rfl))
      · refine lv_aload_n hx hb dX5_go_94 rfl (lv_at hl 2 rfl) ?_
        refine mh_get hx hb hts (by decide +kernel) hown hKK.1 hW 3 (by decide) (hts (.fieldLink RX5 22 "WaxrowModel$House" "figures" "[[I") (by decide +kernel)) rfl (v := .ref (L 4 0)) rfl dX5_go_95 ?_
        refine lv_iload hx hb dX5_go_98 (lv_at hl 0 rfl) ?_
        refine mh_aald hx hb hKK.2.1 hW 4 n (by decide) (by decide) (by show n < mh_n 4; unfold mh_n; simp; omega) dX5_go_100 ?_
        refine lv_bipush (v := 7) hx hb dX5_go_101 (by decide) ?_
        refine mh_iald hx hb hKK.1 hW 14 n (by decide) (mh_ixR (k := 4) (by decide) (by decide) (by show n < mh_n 4; unfold mh_n; simp; omega)) (i := 7) (by unfold vp_in; decide) dX5_go_103 ?_
        rw [show (7 : Int32).toNatClampNeg = 7 from by decide]
        refine lv_bipush (v := 7) hx hb dX5_go_104 (by decide) ?_
        refine lv_icmp_eq (tgt := 123) hx hb dX5_go_106 (by decide) (fun c_106 => ?_) (fun c_106 => ?_)
        · refine lv_iconst (v := 0) hx hb dX5_go_123 (by decide) ?_
          refine lv_iadd hx hb dX5_go_124 ?_
          refine lv_istore_n (lv' := [(3, .int (((mp_works ρ n).1) + 0)), (4, .int (nI n)), (0, .ref (L 0 0)), (1, .int x), (2, .int z)]) hx hb dX5_go_125 rfl hl (by decide) rfl (fun ls hl => ?_)
          refine lv_iinc (v := nI (n + 1)) (lv' := [(4, .int (nI (n + 1))), (3, .int (((mp_works ρ n).1) + 0)), (0, .ref (L 0 0)), (1, .int x), (2, .int z)]) hx hb dX5_go_126 hl (k := 1) rfl (nI_succ _).symm (by decide) rfl (fun ls hl => ?_)
          refine lv_goto (tgt := 70) hx hb dX5_go_129 (by decide) ?_
          have hst : mp_works ρ (n + 1) = (((mp_works ρ n).1) + 0, (mp_works ρ n).2) := (if_neg c_91).trans (if_pos c_106)
          have hwv : mp_wadvs ρ (n + 1) = mp_wadvs ρ n := (if_neg c_91).trans (if_pos c_106)
          refine W.widen (k := cells + mp_wadvs ρ (n + 1)) (n := slots + 7 * mp_wadvs ρ (n + 1)) (by omega) (by omega) ?_
          exact ih (n + 1) (by omega) _ _ (by rw [hst]; exact hW) hS ls (by rw [hst]; exact (lv_sub hl [0, 1, 2, 3, 4] rfl))
        · refine lv_aload_n hx hb dX5_go_109 rfl (lv_at hl 2 rfl) ?_
          refine lv_aload_n hx hb dX5_go_110 rfl (lv_at hl 2 rfl) ?_
          refine mh_get hx hb hts (by decide +kernel) hown hKK.1 hW 3 (by decide) (hts (.fieldLink RX5 22 "WaxrowModel$House" "figures" "[[I") (by decide +kernel)) rfl (v := .ref (L 4 0)) rfl dX5_go_111 ?_
          refine lv_iload hx hb dX5_go_114 (lv_at hl 0 rfl) ?_
          refine mh_aald hx hb hKK.2.1 hW 4 n (by decide) (by decide) (by show n < mh_n 4; unfold mh_n; simp; omega) dX5_go_116 ?_
          obtain ⟨⟨h0, h0l, h0e⟩, -, hj, -⟩ := (hok.works n (by omega)).2.2.2.2.2.2 n hnN
          have hwv : mp_wadvs ρ (n + 1) = mp_wadvs ρ n + mp_wadv (mp_works ρ n).2 n := by rw [mp_wadvs, if_neg c_91, if_neg c_106]
          have hwl := mp_wadvs_mono ρ (n + 1) F (by omega)
          refine mh_calli (As := [.ref (L 14 n)]) ⟨hx, hb, hml, hown, hts⟩ (kX5_work l D d cB L A (mp_works ρ n).2 n (by omega) h0 (by omega) h0e H.size (fun q h => hAz q (Nat.le_trans hS.1 h)) hj) (cwV 1 hts gX5_go_X5_work rfl rfl rfl (by decide +kernel) ⟨Nat.le_of_ble_eq_true rfl, Nat.le_of_ble_eq_true rfl⟩) hKK hW hS rfl hl.1 (Nat.le_of_ble_eq_true rfl) dX5_go_117 ⟨by show cells + mp_wadvs ρ n + mp_wadv (mp_works ρ n).2 n ≤ KC; omega, by show slots + 7 * mp_wadvs ρ n + 7 * mp_wadv (mp_works ρ n).2 n ≤ KS; omega⟩ rfl (fun r_ τ_ H locs hp hW hz hqq hS => ?_)
          have er_ : (mp_work (mp_works ρ n).2 n).1 = r_ := by rw [hp]
          have et_ : (mp_work (mp_works ρ n).2 n).2 = τ_ := by rw [hp]
          subst er_ et_
          refine lv_goto (tgt := 124) hx hb dX5_go_120 (by decide) ?_
          refine lv_iadd hx hb dX5_go_124 ?_
          refine lv_istore_n (lv' := [(3, .int (((mp_works ρ n).1) + ((mp_work (mp_works ρ n).2 n).1))), (4, .int (nI n)), (0, .ref (L 0 0)), (1, .int x), (2, .int z)]) hx hb dX5_go_125 rfl hl (by decide) rfl (fun ls hl => ?_)
          refine lv_iinc (v := nI (n + 1)) (lv' := [(4, .int (nI (n + 1))), (3, .int (((mp_works ρ n).1) + ((mp_work (mp_works ρ n).2 n).1))), (0, .ref (L 0 0)), (1, .int x), (2, .int z)]) hx hb dX5_go_126 hl (k := 1) rfl (nI_succ _).symm (by decide) rfl (fun ls hl => ?_)
          refine lv_goto (tgt := 70) hx hb dX5_go_129 (by decide) ?_
          have hst : mp_works ρ (n + 1) = (((mp_works ρ n).1) + ((mp_work (mp_works ρ n).2 n).1), (mp_work (mp_works ρ n).2 n).2) := (if_neg c_91).trans (if_neg c_106)
          refine W.widen (k := cells + mp_wadvs ρ (n + 1)) (n := slots + 7 * mp_wadvs ρ (n + 1)) (by omega) (by omega) ?_
          exact ih (n + 1) (by omega) _ _ (by rw [hst]; exact hW) hS ls (by rw [hst]; exact (lv_sub hl [0, 1, 2, 3, 4] rfl))
def mh_own (L : hs_Lo) : Nat → Prop := fun q => ∃ k i, mh_ix k i ∧ q = L k i
theorem mh_W.own {D : va_G} {cI cB : ClassId} {L : hs_Lo} {A : Nat → Prop} {ρ : hs_St} {H : Heap} (h : mh_W D cI cB L ρ A H) : mh_W D cI cB L ρ (mh_own L) H := ⟨h.1, fun k i hx => ⟨k, i, hx, rfl⟩, h.2.2⟩
theorem mh_nw.own {L : hs_Lo} {v : Nat} (h : mh_nw L v) : ¬ mh_own L v := fun ⟨k, i, hx, e⟩ => by
  have := h k i hx
  omega
section MHO
variable {p : Program} {l : Launch} {e : Env} {R : Room} {s : State} {m : MethodId} {args : Array Value} {below : List Frame} {meth : Method} {c0 : Code} {H : Heap} {locs : List Loc} {cells slots : Nat} {Q : State → Prop}
variable {cc : ByteArray} {pc : Nat} {ls : Array Slot} {rest : List Value} {D : va_G} {d : hs_Dm} {cB : ClassId} {L : hs_Lo} {A : Nat → Prop} {ρ : hs_St}
variable {y : MethodName} {bytes : ByteArray} {maxL nL na index mc ms : Nat} {ret : Option FieldType} {ws : List Cond} {rm : Room} {Ts : List Cond} {own : String} {As st : List Value}
/-- the house calls itself; its own cells alone are touched -/
theorem mh_callo {post : Int32 → hs_St → Prop} (S : CallFix p m c0 cc nL s args Ts own) (hM : mh_Mi l y ws rm D d cB L ρ (mh_own L) H.size (.ref (L 0 0) :: As) post mc ms) (cw : CallW R s args own RX5 index y bytes maxL ret ws rm mc ms na) (hKK : mh_K D d cB s) (hW : mh_W D d.1 cB L ρ A H) (hS : va_S A s.heap H locs) (hn : As.length = na) (hsize : ls.size = nL) (hrest : (rest.map fun v => v.category).sum ≤ 8) (hdg : decode cc pc = .ok (.invokevirtual index, 3)) (hf : cells + mc ≤ R.cells ∧ slots + ms ≤ R.slots) (hst : st = As.reverse ++ .ref (L 0 0) :: rest)
    (kk : ∀ (r : Int32) (τ : hs_St) (H1 : Heap) (locs1 : List Loc), post r τ → mh_W D d.1 cB L τ A H1 → H.size ≤ H1.size → (∀ q : Nat, q < H.size → ¬ mh_own L q → H1[q]? = H[q]?) → va_S A s.heap H1 locs1 → W p l e R s m args below meth c0 H1 locs1 (cells + mc) (slots + ms) Q (F0 m (pc + 3) ls (.int r :: rest))) : W p l e R s m args below meth c0 H locs cells slots Q (F0 m pc ls st) := by
  subst hst
  have hOA : ∀ q, mh_own L q → A q := fun q ⟨k, i, hx, e⟩ => by rw [e]; exact hW.2.1 k i hx
  exact va_calli (va_runV S hM cw ⟨mh_blind, va_recv hKK.1 (mh_pO hW) (q0 := 0) (show vwCl[cMh]? = some (RX5, TX5, 14) from rfl) rfl, fun U hU hW9 => ⟨rfl, by rw [hU], by rw [hU]; exact hW.own, hKK.on hW9⟩⟩ rfl hn hsize rfl (lv_room hrest) hdg hf) hS (fun q _ h => hOA q h) (fun q h => hOA q h) (fun r τ t H1 locs1 ht _ hp hB1 hz hq hS1 => by
    have hB1 : mh_W D d.1 cB L τ (mh_own L) t.heap := hB1
    rw [ht] at hB1
    exact kk r τ H1 locs1 hp ⟨hB1.1, hW.2.1, hB1.2.2⟩ hz hq hS1)
theorem mh_callov {post : hs_St → Prop} (S : CallFix p m c0 cc nL s args Ts own) (hM : mh_Mv l y ws rm D d cB L ρ (mh_own L) H.size (.ref (L 0 0) :: As) post mc ms) (cw : CallW R s args own RX5 index y bytes maxL none ws rm mc ms na) (hKK : mh_K D d cB s) (hW : mh_W D d.1 cB L ρ A H) (hS : va_S A s.heap H locs) (hn : As.length = na) (hsize : ls.size = nL) (hrest : (rest.map fun v => v.category).sum ≤ 8) (hdg : decode cc pc = .ok (.invokevirtual index, 3)) (hf : cells + mc ≤ R.cells ∧ slots + ms ≤ R.slots) (hst : st = As.reverse ++ .ref (L 0 0) :: rest)
    (kk : ∀ (τ : hs_St) (H1 : Heap) (locs1 : List Loc), post τ → mh_W D d.1 cB L τ A H1 → H.size ≤ H1.size → (∀ q : Nat, q < H.size → ¬ mh_own L q → H1[q]? = H[q]?) → va_S A s.heap H1 locs1 → W p l e R s m args below meth c0 H1 locs1 (cells + mc) (slots + ms) Q (F0 m (pc + 3) ls rest)) : W p l e R s m args below meth c0 H locs cells slots Q (F0 m pc ls st) := by
  subst hst
  have hOA : ∀ q, mh_own L q → A q := fun q ⟨k, i, hx, e⟩ => by rw [e]; exact hW.2.1 k i hx
  exact va_callv (va_runV S hM cw ⟨mh_blind, va_recv hKK.1 (mh_pO hW) (q0 := 0) (show vwCl[cMh]? = some (RX5, TX5, 14) from rfl) rfl, fun U hU hW9 => ⟨rfl, by rw [hU], by rw [hU]; exact hW.own, hKK.on hW9⟩⟩ rfl hn hsize rfl (lv_room hrest) hdg hf) hS (fun q _ h => hOA q h) (fun q h => hOA q h) (fun τ t H1 locs1 ht _ hp hB1 hz hq hS1 => by
    have hB1 : mh_W D d.1 cB L τ (mh_own L) t.heap := hB1
    rw [ht] at hB1
    exact kk τ H1 locs1 hp ⟨hB1.1, hW.2.1, hB1.2.2⟩ hz hq hS1)
end MHO
set_option maxHeartbeats 4000000 in
set_option maxRecDepth 100000 in
/-- the reference: go: the loop at 192 -/
theorem lkX5_go192 {p : Program} {l : Launch} {e : Env} {s : State} {m : MethodId} {args : Array Value} {below : List Frame} {meth : Method} {c0 : Code} {Q : State → Prop} {cells slots : Nat} {D : va_G} {d : hs_Dm} {cB : ClassId} {L : hs_Lo} {A : Nat → Prop} {KC KS : Nat} (P F R : Nat) (ρ : hs_St) (hok : mh_ok P F R ρ) (x z many all come : Int32) (v : Nat) (nv : mh_nw L v) (hAv : A v) (hx : p.tables.exec = Jvm.exec) (hb : c0.code = cX5_go) (hr : meth.sig.returnType = (some .int)) (hts : ∀ w ∈ wsX5_go, w.before args s = true) (hown : s.vm.findClass RX5 = some m.cls) (hlocks : meth.locks = false) (hml : c0.maxLocals = 8) (hKK : mh_K D d cB s) (hcs : cells ≤ KC ∧ slots ≤ KS) (kK : ∀ (H : Heap) (locs : List Loc), va_at D vwCl (v, .inl (d.1, 8, .inl (mp_touch ρ all come F))) H → mh_W D d.1 cB L ρ A H → va_S A s.heap H locs → ∀ ls : Array Slot, lv_has ls 8 [(6, .ref v), (3, .int many), (0, .ref (L 0 0)), (1, .int x), (2, .int z)] → W p l e ({ frames := 5, cells := KC, slots := KS, locals := 150 } : Room) s m args below meth c0 H locs cells slots Q (F0 m 238 ls [])) : ∀ (kk n : Nat), n + kk = F → ∀ (H : Heap) (locs : List Loc), va_at D vwCl (v, .inl (d.1, 8, .inl (mp_touch ρ all come n))) H → mh_W D d.1 cB L ρ A H → va_S A s.heap H locs → ∀ ls : Array Slot, lv_has ls 8 [(7, .int (nI n)), (6, .ref v), (5, .int all), (4, .int come), (3, .int many), (0, .ref (L 0 0)), (1, .int x), (2, .int z)] → W p l e ({ frames := 5, cells := KC, slots := KS, locals := 150 } : Room) s m args below meth c0 H locs cells slots Q (F0 m 192 ls []) := by
  intro kk
  induction kk with
  | zero =>
    intro n hn H locs hv hW hS ls hl
    have hnN : n = F := by omega
    have hF8 := hok.2.1
    have h10 := hok.1
    refine lv_iload hx hb dX5_go_192 (lv_at hl 0 rfl) ?_
    refine lv_aload_n hx hb dX5_go_194 rfl (lv_at hl 5 rfl) ?_
    refine mh_get hx hb hts (by decide +kernel) hown hKK.1 hW 7 (by decide) (hts (.fieldLink RX5 56 "WaxrowModel$House" "figureCount" "I") (by decide +kernel)) rfl (v := .int (ρ 0 0 7)) rfl dX5_go_195 ?_
    rw [show ρ 0 0 7 = nI F from (hok).2.2.2.2.1]
    refine lv_icmp_ge (tgt := 238) hx hb dX5_go_198 (by decide) (fun c_198 => ?_) (fun c_198 => ?_)
    · subst hnN
      exact kK _ _ hv hW hS ls (lv_sub hl [1, 4, 5, 6, 7] rfl)
    · exact absurd (by rw [hnN]; exact nI_le (a := F) (b := F) (Nat.le_refl _) (by omega)) c_198
  | succ kk ih =>
    intro n hn H locs hv hW hS ls hl
    have hnN : n < F := by omega
    have hF8 := hok.2.1
    have h10 := hok.1
    refine lv_iload hx hb dX5_go_192 (lv_at hl 0 rfl) ?_
    refine lv_aload_n hx hb dX5_go_194 rfl (lv_at hl 5 rfl) ?_
    refine mh_get hx hb hts (by decide +kernel) hown hKK.1 hW 7 (by decide) (hts (.fieldLink RX5 56 "WaxrowModel$House" "figureCount" "I") (by decide +kernel)) rfl (v := .int (ρ 0 0 7)) rfl dX5_go_195 ?_
    rw [show ρ 0 0 7 = nI F from (hok).2.2.2.2.1]
    refine lv_icmp_ge (tgt := 238) hx hb dX5_go_198 (by decide) (fun c_198 => ?_) (fun c_198 => ?_)
    · exact absurd c_198 (nI_ge (b := F) hnN (by omega))
    · refine lv_aload hx hb dX5_go_201 (lv_at hl 1 rfl) ?_
      refine lv_iload hx hb dX5_go_203 (lv_at hl 0 rfl) ?_
      refine lv_iload hx hb dX5_go_205 (lv_at hl 2 rfl) ?_
      refine lv_if_ne (tgt := 214) hx hb dX5_go_207 (by decide) (fun c_207 => ?_) (fun c_207 => ?_)
      · refine lv_iload hx hb dX5_go_214 (lv_at hl 3 rfl) ?_
        refine lv_aload_n hx hb dX5_go_216 rfl (lv_at hl 5 rfl) ?_
        refine lv_aload_n hx hb dX5_go_217 rfl (lv_at hl 5 rfl) ?_
        refine mh_get hx hb hts (by decide +kernel) hown hKK.1 hW 3 (by decide) (hts (.fieldLink RX5 22 "WaxrowModel$House" "figures" "[[I") (by decide +kernel)) rfl (v := .ref (L 4 0)) rfl dX5_go_218 ?_
        refine lv_iload hx hb dX5_go_221 (lv_at hl 0 rfl) ?_
        refine mh_aald hx hb hKK.2.1 hW 4 n (by decide) (by decide) (by show n < mh_n 4; unfold mh_n; simp; omega) dX5_go_223 ?_
        refine mh_callo (As := [.ref (L 14 n)]) ⟨hx, hb, hml, hown, hts⟩ (kX5_draw l D d cB L ρ (mh_own L) H.size n (by omega) (by obtain ⟨h_, h1_, h2_⟩ := (hok.2.2.2.2.2.2 n hnN).1; exact ⟨h_, by omega, h2_⟩) (by obtain ⟨h_, h1_, h2_⟩ := (hok.2.2.2.2.2.2 n hnN).2.1; exact ⟨h_, by omega, h2_⟩)) (cwV 1 hts gX5_go_X5_draw rfl rfl rfl (by decide +kernel) ⟨Nat.le_of_ble_eq_true rfl, Nat.le_of_ble_eq_true rfl⟩) hKK hW hS rfl hl.1 (Nat.le_of_ble_eq_true rfl) dX5_go_224 ⟨by show cells + 0 ≤ KC; omega, by show slots + 0 ≤ KS; omega⟩ rfl (fun r_ τ_ H locs hp hW hz hqq hS => ?_)
        obtain ⟨e1_, e2_⟩ := hp
        subst e1_ e2_
        have hv := hv.kept (hqq _ hv.lt nv.own)
        refine lv_imul hx hb dX5_go_227 ?_
        refine lv_iload hx hb dX5_go_228 (lv_at hl 2 rfl) ?_
        refine lv_idiv hx hb dX5_go_230 c_207 ?_
        refine mh_niast hx hb hKK.1 hW hS hv nv hAv (i := nI n) (x := come * mp_draw ρ n / all) (by unfold vp_in; exact nI_in (show n < 8 by omega) (by decide)) dX5_go_231 (fun H locs hW hv hz hS => ?_)
        rw [show (nI n : Int32).toNatClampNeg = n from nI_clamp (by omega)] at hv
        refine lv_iinc (v := nI (n + 1)) (lv' := [(7, .int (nI (n + 1))), (6, .ref v), (5, .int all), (4, .int come), (3, .int many), (0, .ref (L 0 0)), (1, .int x), (2, .int z)]) hx hb dX5_go_232 hl (k := 0) rfl (nI_succ _).symm (by decide) rfl (fun ls hl => ?_)
        refine lv_goto (tgt := 192) hx hb dX5_go_235 (by decide) ?_
        have ht_ : mp_touch ρ all come (n + 1) = upd (mp_touch ρ all come n) n (come * mp_draw ρ n / all) := by rw [mp_touch, if_neg c_207]
        exact ih (n + 1) (by omega) _ _ (by rw [ht_]; exact hv) hW hS ls (lv_sub hl [0, 1, 2, 3, 4, 5, 6, 7] rfl)
      · refine lv_iconst (v := 0) hx hb dX5_go_210 (by decide) ?_
        refine lv_goto (tgt := 231) hx hb dX5_go_211 (by decide) ?_
        refine mh_niast hx hb hKK.1 hW hS hv nv hAv (i := nI n) (x := 0) (by unfold vp_in; exact nI_in (show n < 8 by omega) (by decide)) dX5_go_231 (fun H locs hW hv hz hS => ?_)
        rw [show (nI n : Int32).toNatClampNeg = n from nI_clamp (by omega)] at hv
        refine lv_iinc (v := nI (n + 1)) (lv' := [(7, .int (nI (n + 1))), (6, .ref v), (5, .int all), (4, .int come), (3, .int many), (0, .ref (L 0 0)), (1, .int x), (2, .int z)]) hx hb dX5_go_232 hl (k := 0) rfl (nI_succ _).symm (by decide) rfl (fun ls hl => ?_)
        refine lv_goto (tgt := 192) hx hb dX5_go_235 (by decide) ?_
        have ht_ : mp_touch ρ all come (n + 1) = upd (mp_touch ρ all come n) n (0 : Int32) := by rw [mp_touch, if_pos c_207]
        exact ih (n + 1) (by omega) _ _ (by rw [ht_]; exact hv) hW hS ls (lv_sub hl [0, 1, 2, 3, 4, 5, 6, 7] rfl)
theorem mp_shown {ρ : hs_St} {f : Nat} (h : ¬ mp_isShown ρ f = 0) : ¬ (ρ 14 f 7 = 5 ∨ ρ 14 f 7 = 6 ∨ ρ 14 f 7 = 7) := fun z => h (by
  unfold mp_isShown
  rcases z with z | z | z <;> rw [z] <;> decide)
set_option maxHeartbeats 4000000 in
set_option maxRecDepth 100000 in
/-- the reference: go: the loop at 241 -/
theorem lkX5_go241 {p : Program} {l : Launch} {e : Env} {s : State} {m : MethodId} {args : Array Value} {below : List Frame} {meth : Method} {c0 : Code} {Q : State → Prop} {cells slots : Nat} {D : va_G} {d : hs_Dm} {cB : ClassId} {L : hs_Lo} {A : Nat → Prop} {KC KS : Nat} (P F R : Nat) (ρ : hs_St) (hok : mh_ok P F R ρ) (g : Nat → Int32) (x z c : Int32) (v : Nat) (nv : mh_nw L v) (hAv : A v) (hx : p.tables.exec = Jvm.exec) (hb : c0.code = cX5_go) (hr : meth.sig.returnType = (some .int)) (hts : ∀ w ∈ wsX5_go, w.before args s = true) (hown : s.vm.findClass RX5 = some m.cls) (hlocks : meth.locks = false) (hml : c0.maxLocals = 8) (hKK : mh_K D d cB s) (hcs : cells ≤ KC ∧ slots ≤ KS) (kK : ∀ (H : Heap) (locs : List Loc), mh_W D d.1 cB L ((mp_wears ρ g z c F).2) A H → va_S A s.heap H locs → ∀ ls : Array Slot, lv_has ls 8 [(3, .int ((mp_wears ρ g z c F).1)), (0, .ref (L 0 0)), (1, .int x), (2, .int z)] → W p l e ({ frames := 5, cells := KC, slots := KS, locals := 150 } : Room) s m args below meth c0 H locs cells slots Q (F0 m 294 ls [])) : ∀ (kk n : Nat), n + kk = F → ∀ (H : Heap) (locs : List Loc), va_at D vwCl (v, .inl (d.1, 8, .inl (g))) H → mh_W D d.1 cB L ((mp_wears ρ g z c n).2) A H → va_S A s.heap H locs → ∀ ls : Array Slot, lv_has ls 8 [(7, .int (nI n)), (6, .ref v), (3, .int ((mp_wears ρ g z c n).1)), (0, .ref (L 0 0)), (1, .int x), (2, .int z)] → W p l e ({ frames := 5, cells := KC, slots := KS, locals := 150 } : Room) s m args below meth c0 H locs cells slots Q (F0 m 241 ls []) := by
  intro kk
  induction kk with
  | zero =>
    intro n hn H locs hv hW hS ls hl
    have hnN : n = F := by omega
    have hF8 := hok.2.1
    have h10 := hok.1
    have hR5 := hok.2.2.1
    refine lv_iload hx hb dX5_go_241 (lv_at hl 0 rfl) ?_
    refine lv_aload_n hx hb dX5_go_243 rfl (lv_at hl 3 rfl) ?_
    refine mh_get hx hb hts (by decide +kernel) hown hKK.1 hW 7 (by decide) (hts (.fieldLink RX5 56 "WaxrowModel$House" "figureCount" "I") (by decide +kernel)) rfl (v := .int (((mp_wears ρ g z c n).2) 0 0 7)) rfl dX5_go_244 ?_
    rw [show ((mp_wears ρ g z c n).2) 0 0 7 = nI F from ((hok.wears g z c n)).2.2.2.2.1]
    refine lv_icmp_ge (tgt := 294) hx hb dX5_go_247 (by decide) (fun c_247 => ?_) (fun c_247 => ?_)
    · subst hnN
      exact kK _ _ hW hS ls (lv_sub hl [2, 3, 4, 5] rfl)
    · exact absurd (by rw [hnN]; exact nI_le (a := F) (b := F) (Nat.le_refl _) (by omega)) c_247
  | succ kk ih =>
    intro n hn H locs hv hW hS ls hl
    have hnN : n < F := by omega
    have hF8 := hok.2.1
    have h10 := hok.1
    have hR5 := hok.2.2.1
    refine lv_iload hx hb dX5_go_241 (lv_at hl 0 rfl) ?_
    refine lv_aload_n hx hb dX5_go_243 rfl (lv_at hl 3 rfl) ?_
    refine mh_get hx hb hts (by decide +kernel) hown hKK.1 hW 7 (by decide) (hts (.fieldLink RX5 56 "WaxrowModel$House" "figureCount" "I") (by decide +kernel)) rfl (v := .int (((mp_wears ρ g z c n).2) 0 0 7)) rfl dX5_go_244 ?_
    rw [show ((mp_wears ρ g z c n).2) 0 0 7 = nI F from ((hok.wears g z c n)).2.2.2.2.1]
    refine lv_icmp_ge (tgt := 294) hx hb dX5_go_247 (by decide) (fun c_247 => ?_) (fun c_247 => ?_)
    · exact absurd c_247 (nI_ge (b := F) hnN (by omega))
    · refine lv_iload_n hx hb dX5_go_250 rfl (lv_at hl 2 rfl) ?_
      refine lv_aload_n hx hb dX5_go_251 rfl (lv_at hl 3 rfl) ?_
      refine lv_aload_n hx hb dX5_go_252 rfl (lv_at hl 3 rfl) ?_
      refine mh_get hx hb hts (by decide +kernel) hown hKK.1 hW 3 (by decide) (hts (.fieldLink RX5 22 "WaxrowModel$House" "figures" "[[I") (by decide +kernel)) rfl (v := .ref (L 4 0)) rfl dX5_go_253 ?_
      refine lv_iload hx hb dX5_go_256 (lv_at hl 0 rfl) ?_
      refine mh_aald hx hb hKK.2.1 hW 4 n (by decide) (by decide) (by show n < mh_n 4; unfold mh_n; simp; omega) dX5_go_258 ?_
      refine mh_callo (As := [.ref (L 14 n)]) ⟨hx, hb, hml, hown, hts⟩ (kX5_isShown l D d cB L (mp_wears ρ g z c n).2 (mh_own L) H.size n (by omega)) (cwV 1 hts gX5_go_X5_isShown rfl rfl rfl (by decide +kernel) ⟨Nat.le_of_ble_eq_true rfl, Nat.le_of_ble_eq_true rfl⟩) hKK hW hS rfl hl.1 (Nat.le_of_ble_eq_true rfl) dX5_go_259 ⟨by show cells + 0 ≤ KC; omega, by show slots + 0 ≤ KS; omega⟩ rfl (fun r_ τ_ H locs hp hW hz hqq hS => ?_)
      obtain ⟨e1_, e2_⟩ := hp
      subst e1_ e2_
      have hv := hv.kept (hqq _ hv.lt nv.own)
      refine lv_if_eq (tgt := 285) hx hb dX5_go_262 (by decide) (fun c_262 => ?_) (fun c_262 => ?_)
      · refine lv_iconst (v := 0) hx hb dX5_go_285 (by decide) ?_
        refine lv_iadd hx hb dX5_go_286 ?_
        refine lv_istore_n (lv' := [(3, .int (((mp_wears ρ g z c n).1) + 0)), (7, .int (nI n)), (6, .ref v), (0, .ref (L 0 0)), (1, .int x), (2, .int z)]) hx hb dX5_go_287 rfl hl (by decide) rfl (fun ls hl => ?_)
        refine lv_iinc (v := nI (n + 1)) (lv' := [(7, .int (nI (n + 1))), (3, .int (((mp_wears ρ g z c n).1) + 0)), (6, .ref v), (0, .ref (L 0 0)), (1, .int x), (2, .int z)]) hx hb dX5_go_288 hl (k := 1) rfl (nI_succ _).symm (by decide) rfl (fun ls hl => ?_)
        refine lv_goto (tgt := 241) hx hb dX5_go_291 (by decide) ?_
        have hst : mp_wears ρ g z c (n + 1) = (((mp_wears ρ g z c n).1) + 0, (mp_wears ρ g z c n).2) := if_pos c_262
        exact ih (n + 1) (by omega) _ _ hv (by rw [hst]; exact hW) hS ls (by rw [hst]; exact (lv_sub hl [0, 2, 1, 3, 4, 5] rfl))
      · obtain ⟨⟨h0, h0l, h0e⟩, -, -, hpl, -⟩ := (hok.wears g z c n).2.2.2.2.2.2 n hnN
        obtain ⟨r0, r0l, r0e⟩ := hpl.resolve_right (mp_shown c_262)
        refine lv_aload_n hx hb dX5_go_265 rfl (lv_at hl 3 rfl) ?_
        refine lv_aload_n hx hb dX5_go_266 rfl (lv_at hl 3 rfl) ?_
        refine mh_get hx hb hts (by decide +kernel) hown hKK.1 hW 3 (by decide) (hts (.fieldLink RX5 22 "WaxrowModel$House" "figures" "[[I") (by decide +kernel)) rfl (v := .ref (L 4 0)) rfl dX5_go_267 ?_
        refine lv_iload hx hb dX5_go_270 (lv_at hl 0 rfl) ?_
        refine mh_aald hx hb hKK.2.1 hW 4 n (by decide) (by decide) (by show n < mh_n 4; unfold mh_n; simp; omega) dX5_go_272 ?_
        refine lv_aload hx hb dX5_go_273 (lv_at hl 1 rfl) ?_
        refine lv_iload hx hb dX5_go_275 (lv_at hl 0 rfl) ?_
        refine mh_niald hx hb hKK.1 hv (i := nI n) (by unfold vp_in; exact nI_in (show n < 8 by omega) (by decide)) dX5_go_277 ?_
        rw [nI_clamp (by omega)]
        refine lv_iload_n hx hb dX5_go_278 rfl (lv_at hl 5 rfl) ?_
        refine mh_callo (As := [.ref (L 14 n), .int (g n), .int z]) ⟨hx, hb, hml, hown, hts⟩ (kX5_wear l D d cB L (mp_wears ρ g z c n).2 (mh_own L) H.size n (by omega) h0 (by omega) h0e r0 (by omega) r0e (g n) z) (cwV 3 hts gX5_go_X5_wear rfl rfl rfl (by decide +kernel) ⟨Nat.le_of_ble_eq_true rfl, Nat.le_of_ble_eq_true rfl⟩) hKK hW hS rfl hl.1 (Nat.le_of_ble_eq_true rfl) dX5_go_279 ⟨by show cells + 0 ≤ KC; omega, by show slots + 0 ≤ KS; omega⟩ rfl (fun r_ τ_ H locs hp hW hz hqq hS => ?_)
        have hv := hv.kept (hqq _ hv.lt nv.own)
        have hwr : mp_wear (mp_wears ρ g z c n).2 n ((mp_wears ρ g z c n).2 14 n 0).toNatClampNeg ((mp_wears ρ g z c n).2 14 n 7).toNatClampNeg (g n) z = (r_, τ_) := by rw [h0e, r0e, nI_clamp (by omega), nI_clamp (by omega)]; exact hp
        refine lv_goto (tgt := 286) hx hb dX5_go_282 (by decide) ?_
        refine lv_iadd hx hb dX5_go_286 ?_
        refine lv_istore_n (lv' := [(3, .int (((mp_wears ρ g z c n).1) + r_)), (7, .int (nI n)), (6, .ref v), (0, .ref (L 0 0)), (1, .int x), (2, .int z)]) hx hb dX5_go_287 rfl hl (by decide) rfl (fun ls hl => ?_)
        refine lv_iinc (v := nI (n + 1)) (lv' := [(7, .int (nI (n + 1))), (3, .int (((mp_wears ρ g z c n).1) + r_)), (6, .ref v), (0, .ref (L 0 0)), (1, .int x), (2, .int z)]) hx hb dX5_go_288 hl (k := 1) rfl (nI_succ _).symm (by decide) rfl (fun ls hl => ?_)
        refine lv_goto (tgt := 241) hx hb dX5_go_291 (by decide) ?_
        have hst : mp_wears ρ g z c (n + 1) = (((mp_wears ρ g z c n).1) + r_, τ_) := (if_neg c_262).trans (by rw [hwr])
        exact ih (n + 1) (by omega) _ _ hv (by rw [hst]; exact hW) hS ls (by rw [hst]; exact (lv_sub hl [0, 2, 1, 3, 4, 5] rfl))
set_option maxHeartbeats 4000000 in
set_option maxRecDepth 100000 in
/-- the reference: go: the loop at 297 -/
theorem lkX5_go297 {p : Program} {l : Launch} {e : Env} {s : State} {m : MethodId} {args : Array Value} {below : List Frame} {meth : Method} {c0 : Code} {Q : State → Prop} {cells slots : Nat} {D : va_G} {d : hs_Dm} {cB : ClassId} {L : hs_Lo} {A : Nat → Prop} {KC KS : Nat} (P F R : Nat) (ρ : hs_St) (hok : mh_ok P F R ρ) (x z many : Int32) (hx : p.tables.exec = Jvm.exec) (hb : c0.code = cX5_go) (hr : meth.sig.returnType = (some .int)) (hts : ∀ w ∈ wsX5_go, w.before args s = true) (hown : s.vm.findClass RX5 = some m.cls) (hlocks : meth.locks = false) (hml : c0.maxLocals = 8) (hKK : mh_K D d cB s) (hcs : cells ≤ KC ∧ slots ≤ KS) (kK : ∀ (H : Heap) (locs : List Loc), mh_W D d.1 cB L (mp_trips ρ F) A H → va_S A s.heap H locs → ∀ ls : Array Slot, lv_has ls 8 [(3, .int many), (0, .ref (L 0 0)), (1, .int x), (2, .int z)] → W p l e ({ frames := 5, cells := KC, slots := KS, locals := 150 } : Room) s m args below meth c0 H locs cells slots Q (F0 m 338 ls [])) : ∀ (kk n : Nat), n + kk = F → ∀ (H : Heap) (locs : List Loc), mh_W D d.1 cB L (mp_trips ρ n) A H → va_S A s.heap H locs → ∀ ls : Array Slot, lv_has ls 8 [(7, .int (nI n)), (3, .int many), (0, .ref (L 0 0)), (1, .int x), (2, .int z)] → W p l e ({ frames := 5, cells := KC, slots := KS, locals := 150 } : Room) s m args below meth c0 H locs cells slots Q (F0 m 297 ls []) := by
  intro kk
  induction kk with
  | zero =>
    intro n hn H locs hW hS ls hl
    have hnN : n = F := by omega
    have hF8 := hok.2.1
    have h10 := hok.1
    refine lv_iload hx hb dX5_go_297 (lv_at hl 0 rfl) ?_
    refine lv_aload_n hx hb dX5_go_299 rfl (lv_at hl 2 rfl) ?_
    refine mh_get hx hb hts (by decide +kernel) hown hKK.1 hW 7 (by decide) (hts (.fieldLink RX5 56 "WaxrowModel$House" "figureCount" "I") (by decide +kernel)) rfl (v := .int ((mp_trips ρ n) 0 0 7)) rfl dX5_go_300 ?_
    rw [show (mp_trips ρ n) 0 0 7 = nI F from ((hok.trips n)).2.2.2.2.1]
    refine lv_icmp_ge (tgt := 338) hx hb dX5_go_303 (by decide) (fun c_303 => ?_) (fun c_303 => ?_)
    · subst hnN
      exact kK _ _ hW hS ls (lv_sub hl [1, 2, 3, 4] rfl)
    · exact absurd (by rw [hnN]; exact nI_le (a := F) (b := F) (Nat.le_refl _) (by omega)) c_303
  | succ kk ih =>
    intro n hn H locs hW hS ls hl
    have hnN : n < F := by omega
    have hF8 := hok.2.1
    have h10 := hok.1
    refine lv_iload hx hb dX5_go_297 (lv_at hl 0 rfl) ?_
    refine lv_aload_n hx hb dX5_go_299 rfl (lv_at hl 2 rfl) ?_
    refine mh_get hx hb hts (by decide +kernel) hown hKK.1 hW 7 (by decide) (hts (.fieldLink RX5 56 "WaxrowModel$House" "figureCount" "I") (by decide +kernel)) rfl (v := .int ((mp_trips ρ n) 0 0 7)) rfl dX5_go_300 ?_
    rw [show (mp_trips ρ n) 0 0 7 = nI F from ((hok.trips n)).2.2.2.2.1]
    refine lv_icmp_ge (tgt := 338) hx hb dX5_go_303 (by decide) (fun c_303 => ?_) (fun c_303 => ?_)
    · exact absurd c_303 (nI_ge (b := F) hnN (by omega))
    · refine lv_aload_n hx hb dX5_go_306 rfl (lv_at hl 2 rfl) ?_
      refine mh_get hx hb hts (by decide +kernel) hown hKK.1 hW 3 (by decide) (hts (.fieldLink RX5 22 "WaxrowModel$House" "figures" "[[I") (by decide +kernel)) rfl (v := .ref (L 4 0)) rfl dX5_go_307 ?_
      refine lv_iload hx hb dX5_go_310 (lv_at hl 0 rfl) ?_
      refine mh_aald hx hb hKK.2.1 hW 4 n (by decide) (by decide) (by show n < mh_n 4; unfold mh_n; simp; omega) dX5_go_312 ?_
      refine lv_bipush (v := 7) hx hb dX5_go_313 (by decide) ?_
      refine mh_iald hx hb hKK.1 hW 14 n (by decide) (mh_ixR (k := 4) (by decide) (by decide) (by show n < mh_n 4; unfold mh_n; simp; omega)) (i := 7) (by unfold vp_in; decide) dX5_go_315 ?_
      rw [show (7 : Int32).toNatClampNeg = 7 from by decide]
      refine lv_bipush (v := 6) hx hb dX5_go_316 (by decide) ?_
      refine lv_icmp_ne (tgt := 332) hx hb dX5_go_318 (by decide) (fun c_318 => ?_) (fun c_318 => ?_)
      · refine lv_iinc (v := nI (n + 1)) (lv' := [(7, .int (nI (n + 1))), (3, .int many), (0, .ref (L 0 0)), (1, .int x), (2, .int z)]) hx hb dX5_go_332 hl (k := 0) rfl (nI_succ _).symm (by decide) rfl (fun ls hl => ?_)
        refine lv_goto (tgt := 297) hx hb dX5_go_335 (by decide) ?_
        have hst : mp_trips ρ (n + 1) = mp_trips ρ n := if_neg c_318
        exact ih (n + 1) (by omega) _ _ (by rw [hst]; exact hW) hS ls (lv_sub hl [0, 1, 2, 3, 4] rfl)
      · obtain ⟨⟨h0, h0l, h0e⟩, hbd, -, -, a0, a0l, a0e⟩ := (hok.trips n).2.2.2.2.2.2 n hnN
        refine lv_aload_n hx hb dX5_go_321 rfl (lv_at hl 2 rfl) ?_
        refine lv_aload_n hx hb dX5_go_322 rfl (lv_at hl 2 rfl) ?_
        refine mh_get hx hb hts (by decide +kernel) hown hKK.1 hW 3 (by decide) (hts (.fieldLink RX5 22 "WaxrowModel$House" "figures" "[[I") (by decide +kernel)) rfl (v := .ref (L 4 0)) rfl dX5_go_323 ?_
        refine lv_iload hx hb dX5_go_326 (lv_at hl 0 rfl) ?_
        refine mh_aald hx hb hKK.2.1 hW 4 n (by decide) (by decide) (by show n < mh_n 4; unfold mh_n; simp; omega) dX5_go_328 ?_
        refine mh_callov (As := [.ref (L 14 n)]) ⟨hx, hb, hml, hown, hts⟩ (kX5_travel l D d cB L (mp_trips ρ n) (mh_own L) H.size n (by omega) h0 (by omega) h0e (by obtain ⟨h_, h1_, h2_⟩ := hbd; exact ⟨h_, by omega, h2_⟩) a0 a0l a0e) (cwV 1 hts gX5_go_X5_travel rfl rfl rfl (by decide +kernel) ⟨Nat.le_of_ble_eq_true rfl, Nat.le_of_ble_eq_true rfl⟩) hKK hW hS rfl hl.1 (Nat.le_of_ble_eq_true rfl) dX5_go_329 ⟨by show cells + 0 ≤ KC; omega, by show slots + 0 ≤ KS; omega⟩ rfl (fun τ_ H locs hp hW hz hqq hS => ?_)
        subst hp
        refine lv_iinc (v := nI (n + 1)) (lv' := [(7, .int (nI (n + 1))), (3, .int many), (0, .ref (L 0 0)), (1, .int x), (2, .int z)]) hx hb dX5_go_332 hl (k := 0) rfl (nI_succ _).symm (by decide) rfl (fun ls hl => ?_)
        refine lv_goto (tgt := 297) hx hb dX5_go_335 (by decide) ?_
        have hst : mp_trips ρ (n + 1) = mp_trip (mp_trips ρ n) n h0 a0 := (if_pos c_318).trans (by rw [h0e, a0e, nI_clamp (by omega), nI_clamp (by omega)])
        exact ih (n + 1) (by omega) _ _ (by rw [hst]; exact hW) hS ls (lv_sub hl [0, 1, 2, 3, 4] rfl)
set_option maxHeartbeats 4000000 in
set_option maxRecDepth 100000 in
/-- the reference: go, from 67 on -/
theorem lkX5_go67 {p : Program} {l : Launch} {e : Env} {s : State} {m : MethodId} {args : Array Value} {below : List Frame} {meth : Method} {c0 : Code} {D : va_G} {d : hs_Dm} {cB : ClassId} {L : hs_Lo} {A : Nat → Prop} (P F R : Nat) (ρ0 ρ : hs_St) (hd : mp_dawn ρ0 P = ρ) (hok : mh_ok P F R ρ) (x z : Int32) (hAz : ∀ q, s.heap.size ≤ q → A q) (hx : p.tables.exec = Jvm.exec) (hb : c0.code = cX5_go) (hr : meth.sig.returnType = (some .int)) (hts : ∀ w ∈ wsX5_go, w.before args s = true) (hown : s.vm.findClass RX5 = some m.cls) (hlocks : meth.locks = false) (hml : c0.maxLocals = 8) (hKK : mh_K D d cB s) (H : Heap) (locs : List Loc) (hW : mh_W D d.1 cB L ρ A H) (hS : va_S A s.heap H locs) (ls : Array Slot) (hl : lv_has ls 8 [(3, .int 0), (0, .ref (L 0 0)), (1, .int x), (2, .int z)]) : W p l e ({ frames := 5, cells := 1 + mp_wadvs ρ F, slots := 8 + 7 * mp_wadvs ρ F, locals := 150 } : Room) s m args below meth c0 H locs 0 0 (MQ below (va_Qi (fun r τ => mp_go ρ0 P F x z = (r, τ)) (fun τ t => mh_W D d.1 cB L τ A t.heap) A) args s (1 + mp_wadvs ρ F) (8 + 7 * mp_wadvs ρ F) A) (F0 m 67 ls []) := by
  have hoke : mh_ok P F R (mp_paid (mp_works ρ F).2 x) := (hok.works F (Nat.le_refl _)).paid x
  refine lv_iconst (v := 0) hx hb dX5_go_67 (by decide) ?_
  refine lv_istore (lv' := [(4, .int 0), (3, .int 0), (0, .ref (L 0 0)), (1, .int x), (2, .int z)]) hx hb dX5_go_68 hl (by decide) rfl (fun ls hl => ?_)
  refine lkX5_go70 (cells := 0) (slots := 0) P F R ρ hok x z hAz hx hb hr hts hown hlocks hml hKK ⟨by omega, by omega⟩ (fun H locs hW hS ls hl => ?_) F 0 (by omega) _ _ hW hS ls (lv_sub hl [0, 1, 2, 3, 4] rfl)
  refine lv_iload_n hx hb dX5_go_132 rfl (lv_at hl 2 rfl) ?_
  refine lv_bipush (v := 100) hx hb dX5_go_133 (by decide) ?_
  refine lv_iconst (v := 5) hx hb dX5_go_135 (by decide) ?_
  refine lv_aload_n hx hb dX5_go_136 rfl (lv_at hl 1 rfl) ?_
  refine mh_get hx hb hts (by decide +kernel) hown hKK.1 hW 11 (by decide) (hts (.fieldLink RX5 32 "WaxrowModel$House" "price" "I") (by decide +kernel)) rfl (v := .int (((mp_works ρ F).2) 0 0 11)) rfl dX5_go_137 ?_
  refine lv_imul hx hb dX5_go_140 ?_
  refine lv_isub hx hb dX5_go_141 ?_
  refine lv_imul hx hb dX5_go_142 ?_
  refine lv_bipush (v := 100) hx hb dX5_go_143 (by decide) ?_
  refine lv_idiv hx hb dX5_go_145 (by decide) ?_
  rw [show (x * (100 - (5 * (((mp_works ρ F).2) 0 0 11)))) / 100 = mp_come (mp_works ρ F).2 x from rfl]
  refine lv_istore (lv' := [(4, .int (mp_come (mp_works ρ F).2 x)), (3, .int ((mp_works ρ F).1)), (0, .ref (L 0 0)), (1, .int x), (2, .int z)]) hx hb dX5_go_146 hl (by decide) rfl (fun ls hl => ?_)
  refine lv_aload_n hx hb dX5_go_148 rfl (lv_at hl 2 rfl) ?_
  refine lv_dup hx hb dX5_go_149 rfl ?_
  refine mh_get hx hb hts (by decide +kernel) hown hKK.1 hW 10 (by decide) (hts (.fieldLink RX5 65 "WaxrowModel$House" "came" "I") (by decide +kernel)) rfl (v := .int (((mp_works ρ F).2) 0 0 10)) rfl dX5_go_150 ?_
  refine lv_iload hx hb dX5_go_153 (lv_at hl 0 rfl) ?_
  refine lv_iadd hx hb dX5_go_155 ?_
  refine mh_puti hx hb hts (by decide +kernel) hown hKK.1 hW hS 10 (by decide) (hts (.fieldLink RX5 65 "WaxrowModel$House" "came" "I") (by decide +kernel)) rfl rfl ((((mp_works ρ F).2) 0 0 10) + (mp_come (mp_works ρ F).2 x)) (by decide +kernel) rfl dX5_go_156 (fun H locs hW hS hz hq => ?_)
  have hW : mh_W D d.1 cB L (hs_sg ((mp_works ρ F).2) 0 0 10 ((((mp_works ρ F).2) 0 0 10) + (mp_come (mp_works ρ F).2 x))) A H := hW
  refine lv_aload_n hx hb dX5_go_159 rfl (lv_at hl 2 rfl) ?_
  refine lv_dup hx hb dX5_go_160 rfl ?_
  refine mh_get hx hb hts (by decide +kernel) hown hKK.1 hW 12 (by decide) (hts (.fieldLink RX5 36 "WaxrowModel$House" "money" "I") (by decide +kernel)) rfl (v := .int ((hs_sg ((mp_works ρ F).2) 0 0 10 ((((mp_works ρ F).2) 0 0 10) + (mp_come (mp_works ρ F).2 x))) 0 0 12)) rfl dX5_go_161 ?_
  rw [show (hs_sg ((mp_works ρ F).2) 0 0 10 ((((mp_works ρ F).2) 0 0 10) + (mp_come (mp_works ρ F).2 x))) 0 0 12 = (mp_works ρ F).2 0 0 12 from by rw [pc9, if_neg (by omega)]]
  refine lv_aload_n hx hb dX5_go_164 rfl (lv_at hl 2 rfl) ?_
  refine mh_get hx hb hts (by decide +kernel) hown hKK.1 hW 11 (by decide) (hts (.fieldLink RX5 32 "WaxrowModel$House" "price" "I") (by decide +kernel)) rfl (v := .int ((hs_sg ((mp_works ρ F).2) 0 0 10 ((((mp_works ρ F).2) 0 0 10) + (mp_come (mp_works ρ F).2 x))) 0 0 11)) rfl dX5_go_165 ?_
  rw [show (hs_sg ((mp_works ρ F).2) 0 0 10 ((((mp_works ρ F).2) 0 0 10) + (mp_come (mp_works ρ F).2 x))) 0 0 11 = (mp_works ρ F).2 0 0 11 from by rw [pc9, if_neg (by omega)]]
  refine lv_iload hx hb dX5_go_168 (lv_at hl 0 rfl) ?_
  refine lv_imul hx hb dX5_go_170 ?_
  refine lv_iadd hx hb dX5_go_171 ?_
  refine mh_puti hx hb hts (by decide +kernel) hown hKK.1 hW hS 12 (by decide) (hts (.fieldLink RX5 36 "WaxrowModel$House" "money" "I") (by decide +kernel)) rfl rfl (((mp_works ρ F).2 0 0 12) + (((mp_works ρ F).2 0 0 11) * (mp_come (mp_works ρ F).2 x))) (by decide +kernel) rfl dX5_go_172 (fun H locs hW hS hz hq => ?_)
  have hW : mh_W D d.1 cB L (mp_paid (mp_works ρ F).2 x) A H := hW
  refine lv_aload_n hx hb dX5_go_175 rfl (lv_at hl 2 rfl) ?_
  refine lv_iconst (v := 0) hx hb dX5_go_176 (by decide) ?_
  refine lv_iconst (v := 4) hx hb dX5_go_177 (by decide) ?_
  refine mh_calli (As := [.int 0, .int 4]) ⟨hx, hb, hml, hown, hts⟩ (kX5_drawsIn l D d cB L (mp_paid (mp_works ρ F).2 x) A H.size P F R hoke 0 4) (cwV 2 hts gX5_go_X5_drawsIn rfl rfl rfl (by decide +kernel) ⟨Nat.le_of_ble_eq_true rfl, Nat.le_of_ble_eq_true rfl⟩) hKK hW hS rfl hl.1 (Nat.le_of_ble_eq_true rfl) dX5_go_178 ⟨by show 0 + mp_wadvs ρ F + 0 ≤ 1 + mp_wadvs ρ F; omega, by show 0 + 7 * mp_wadvs ρ F + 0 ≤ 8 + 7 * mp_wadvs ρ F; omega⟩ rfl (fun r_ τ_ H locs hp hW hz hqq hS => ?_)
  obtain ⟨e1_, e2_⟩ := hp
  subst e1_ e2_
  have hAv9 := hAz
  refine lv_istore (lv' := [(5, .int (mp_draws (mp_paid (mp_works ρ F).2 x) 0 4 F)), (4, .int (mp_come (mp_works ρ F).2 x)), (3, .int ((mp_works ρ F).1)), (0, .ref (L 0 0)), (1, .int x), (2, .int z)]) hx hb dX5_go_181 hl (by decide) rfl (fun ls hl => ?_)
  refine lv_bipush (v := 8) hx hb dX5_go_183 (by decide) ?_
  refine mh_newa hx hb (hts (.arrayClass .int) (by decide +kernel)) hKK.1 hAz hW hS (by decide) (N' := 8) rfl (by decide) (by show 0 + mp_wadvs ρ F + 0 + 1 ≤ 1 + mp_wadvs ρ F; omega) (by show 0 + 7 * mp_wadvs ρ F + 0 + 8 ≤ 8 + 7 * mp_wadvs ρ F; omega) dX5_go_185 (fun H v hW nv hAv hz0v hv hz hS => ?_)
  refine lv_astore (lv' := [(6, .ref v), (5, .int (mp_draws (mp_paid (mp_works ρ F).2 x) 0 4 F)), (4, .int (mp_come (mp_works ρ F).2 x)), (3, .int ((mp_works ρ F).1)), (0, .ref (L 0 0)), (1, .int x), (2, .int z)]) hx hb dX5_go_187 hl (by decide) rfl (fun ls hl => ?_)
  refine lv_iconst (v := 0) hx hb dX5_go_189 (by decide) ?_
  refine lv_istore (lv' := [(7, .int 0), (6, .ref v), (5, .int (mp_draws (mp_paid (mp_works ρ F).2 x) 0 4 F)), (4, .int (mp_come (mp_works ρ F).2 x)), (3, .int ((mp_works ρ F).1)), (0, .ref (L 0 0)), (1, .int x), (2, .int z)]) hx hb dX5_go_190 hl (by decide) rfl (fun ls hl => ?_)
  refine lkX5_go192 P F R (mp_paid (mp_works ρ F).2 x) hoke x z (mp_works ρ F).1 (mp_draws (mp_paid (mp_works ρ F).2 x) 0 4 F) (mp_come (mp_works ρ F).2 x) v nv hAv hx hb hr hts hown hlocks hml hKK ⟨by omega, by omega⟩ (fun H locs hv hW hS ls hl => ?_) F 0 (by omega) _ _ hv hW hS ls (lv_sub hl [0, 1, 2, 3, 4, 5, 6, 7] rfl)
  refine lv_iconst (v := 0) hx hb dX5_go_238 (by decide) ?_
  refine lv_istore (lv' := [(7, .int 0), (6, .ref v), (3, .int ((mp_works ρ F).1)), (0, .ref (L 0 0)), (1, .int x), (2, .int z)]) hx hb dX5_go_239 hl (by decide) rfl (fun ls hl => ?_)
  refine lkX5_go241 P F R (mp_paid (mp_works ρ F).2 x) hoke (mp_touch (mp_paid (mp_works ρ F).2 x) (mp_draws (mp_paid (mp_works ρ F).2 x) 0 4 F) (mp_come (mp_works ρ F).2 x) F) x z (mp_works ρ F).1 v nv hAv hx hb hr hts hown hlocks hml hKK ⟨by omega, by omega⟩ (fun H locs hW hS ls hl => ?_) F 0 (by omega) _ _ hv hW hS ls (lv_sub hl [0, 1, 2, 3, 4, 5] rfl)
  refine lv_iconst (v := 0) hx hb dX5_go_294 (by decide) ?_
  refine lv_istore (lv' := [(7, .int 0), (3, .int ((mp_wears (mp_paid (mp_works ρ F).2 x) (mp_touch (mp_paid (mp_works ρ F).2 x) (mp_draws (mp_paid (mp_works ρ F).2 x) 0 4 F) (mp_come (mp_works ρ F).2 x) F) z (mp_works ρ F).1 F).1)), (0, .ref (L 0 0)), (1, .int x), (2, .int z)]) hx hb dX5_go_295 hl (by decide) rfl (fun ls hl => ?_)
  refine lkX5_go297 P F R (mp_wears (mp_paid (mp_works ρ F).2 x) (mp_touch (mp_paid (mp_works ρ F).2 x) (mp_draws (mp_paid (mp_works ρ F).2 x) 0 4 F) (mp_come (mp_works ρ F).2 x) F) z (mp_works ρ F).1 F).2 (hoke.wears _ z _ F) x z (mp_wears (mp_paid (mp_works ρ F).2 x) (mp_touch (mp_paid (mp_works ρ F).2 x) (mp_draws (mp_paid (mp_works ρ F).2 x) 0 4 F) (mp_come (mp_works ρ F).2 x) F) z (mp_works ρ F).1 F).1 hx hb hr hts hown hlocks hml hKK ⟨by omega, by omega⟩ (fun H locs hW hS ls hl => ?_) F 0 (by omega) _ _ hW hS ls (lv_sub hl [0, 1, 2, 3, 4] rfl)
  refine lv_iload_n hx hb dX5_go_338 rfl (lv_at hl 0 rfl) ?_
  refine W.widen (k := 1 + mp_wadvs ρ F) (n := 8 + 7 * mp_wadvs ρ F) (by omega) (by omega) ?_
  exact W.iret (v := (mp_wears (mp_paid (mp_works ρ F).2 x) (mp_touch (mp_paid (mp_works ρ F).2 x) (mp_draws (mp_paid (mp_works ρ F).2 x) 0 4 F) (mp_come (mp_works ρ F).2 x) F) z (mp_works ρ F).1 F).1) hx hb hr (fun t ht hW9 => ⟨⟨(mp_wears (mp_paid (mp_works ρ F).2 x) (mp_touch (mp_paid (mp_works ρ F).2 x) (mp_draws (mp_paid (mp_works ρ F).2 x) 0 4 F) (mp_come (mp_works ρ F).2 x) F) z (mp_works ρ F).1 F).1, mp_trips (mp_wears (mp_paid (mp_works ρ F).2 x) (mp_touch (mp_paid (mp_works ρ F).2 x) (mp_draws (mp_paid (mp_works ρ F).2 x) 0 4 F) (mp_come (mp_works ρ F).2 x) F) z (mp_works ρ F).1 F).2 F, rfl, by unfold mp_go mp_eve; rw [hd], by show mh_W D d.1 cB L _ A t.heap; rw [ht]; exact hW⟩, hS.F ht⟩) hS.2.2 dX5_go_339
set_option maxHeartbeats 4000000 in
set_option maxRecDepth 100000 in
/-- the reference: go -/
theorem kX5_go (l : Launch) (D : va_G) (d : hs_Dm) (cB : ClassId) (L : hs_Lo) (A : Nat → Prop) (sz : Nat) (hA : mh_A A sz) (P F R : Nat) (ρ : hs_St) (hok : mh_ok P F R ρ) (x z : Int32) : mh_Mi l yX5_go wsX5_go ({ frames := 5, cells := 1 + mp_wadvs (mp_dawn ρ P) F, slots := 8 + 7 * mp_wadvs (mp_dawn ρ P) F, locals := 150 } : Room) D d cB L ρ A sz [.ref (L 0 0), .int x, .int z] (fun r τ => mp_go ρ P F x z = (r, τ)) (1 + mp_wadvs (mp_dawn ρ P) F) (8 + 7 * mp_wadvs (mp_dawn ρ P) F) := by
  refine Met.ofW (cc := cX5_go) (maxL := 8) (ret := (some .int)) (by decide) rfl ?_
  intro p e s m args below meth c0 s₁ B hml hv
  obtain ⟨rfl, hsz, hW, hKK⟩ := hv
  have hx := B.exec
  have hb := B.bytes
  have hr := B.returns
  have hts := atoms_spec (ws := wsX5_go) B.pre
  have hown : s.vm.findClass RX5 = some m.cls := findClass_of_methodNamed B.named
  have hlocks := B.notSynchronized
  have hAz : ∀ q, s.heap.size ≤ q → A q := by rw [hsz]; exact hA
  have hS : va_S A s.heap s.heap [] := va_S.rf
  have hl := lv_entry ([.ref (L 0 0), .int x, .int z]) (n := 8) (Nat.le_of_ble_eq_true rfl)
  rw [lg_entry_eq]
  generalize (lg_sl ([.ref (L 0 0), .int x, .int z]) ++ List.replicate (8 - (lg_sl ([.ref (L 0 0), .int x, .int z])).length) Slot.unset).toArray = ls at hl ⊢
  have hl : lv_has ls 8 [(0, .ref (L 0 0)), (1, .int x), (2, .int z)] := hl
  have hok1 := hok.sg0 9 (ρ 0 0 9 + 1) (by decide)
  refine lv_aload_n hx hb dX5_go_0 rfl (lv_at hl 0 rfl) ?_
  refine lv_dup hx hb dX5_go_1 rfl ?_
  refine mh_get hx hb hts (by decide +kernel) hown hKK.1 hW 9 (by decide) (hts (.fieldLink RX5 62 "WaxrowModel$House" "day" "I") (by decide +kernel)) rfl (v := .int (ρ 0 0 9)) rfl dX5_go_2 ?_
  refine lv_iconst (v := 1) hx hb dX5_go_5 (by decide) ?_
  refine lv_iadd hx hb dX5_go_6 ?_
  refine mh_puti hx hb hts (by decide +kernel) hown hKK.1 hW hS 9 (by decide) (hts (.fieldLink RX5 62 "WaxrowModel$House" "day" "I") (by decide +kernel)) rfl rfl ((ρ 0 0 9) + 1) (by decide +kernel) rfl dX5_go_7 (fun H locs hW hS hz hq => ?_)
  have hW : mh_W D d.1 cB L (hs_sg ρ 0 0 9 ((ρ 0 0 9) + 1)) A H := hW
  refine lv_iconst (v := 0) hx hb dX5_go_10 (by decide) ?_
  refine lv_istore_n (lv' := [(3, .int 0), (0, .ref (L 0 0)), (1, .int x), (2, .int z)]) hx hb dX5_go_11 rfl hl (by decide) rfl (fun ls hl => ?_)
  refine lv_aload_n hx hb dX5_go_12 rfl (lv_at hl 1 rfl) ?_
  refine mh_get hx hb hts (by decide +kernel) hown hKK.1 hW 9 (by decide) (hts (.fieldLink RX5 62 "WaxrowModel$House" "day" "I") (by decide +kernel)) rfl (v := .int ((hs_sg ρ 0 0 9 ((ρ 0 0 9) + 1)) 0 0 9)) rfl dX5_go_13 ?_
  rw [show (hs_sg ρ 0 0 9 ((ρ 0 0 9) + 1)) 0 0 9 = ρ 0 0 9 + 1 from by rw [pc9, if_pos ⟨rfl, rfl, rfl⟩]]
  refine lv_bipush (v := 30) hx hb dX5_go_16 (by decide) ?_
  refine lv_irem hx hb dX5_go_18 (by decide) ?_
  refine lv_if_ne (tgt := 67) hx hb dX5_go_19 (by decide) (fun c_19 => ?_) (fun c_19 => ?_)
  · exact lkX5_go67 P F R ρ _ rfl hok.dawn x z hAz hx hb hr hts hown hlocks hml hKK _ _ (by rw [show mp_dawn ρ P = hs_sg ρ 0 0 9 (ρ 0 0 9 + 1) from if_neg c_19]; exact hW) hS ls (lv_sub hl [0, 1, 2, 3] rfl)
  · refine lv_iconst (v := 0) hx hb dX5_go_22 (by decide) ?_
    refine lv_istore (lv' := [(4, .int 0), (3, .int 0), (0, .ref (L 0 0)), (1, .int x), (2, .int z)]) hx hb dX5_go_23 hl (by decide) rfl (fun ls hl => ?_)
    refine lkX5_go25 P F R (hs_sg ρ 0 0 9 (ρ 0 0 9 + 1)) hok1 x z 0 hx hb hr hts hown hlocks hml hKK ⟨Nat.zero_le _, Nat.zero_le _⟩ (fun H locs hW hS ls hl => ?_) P 0 (by omega) _ _ hW hS ls (lv_sub hl [0, 1, 2, 3, 4] rfl)
    exact lkX5_go67 P F R ρ _ rfl hok.dawn x z hAz hx hb hr hts hown hlocks hml hKK _ _ (by rw [show mp_dawn ρ P = mp_monAll (hs_sg ρ 0 0 9 (ρ 0 0 9 + 1)) P from if_pos c_19]; exact hW) hS ls hl
