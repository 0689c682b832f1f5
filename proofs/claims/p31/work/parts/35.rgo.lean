/-! THE REFERENCE'S go -/
theorem mp_wadvs_le {P F R : Nat} {ρ : hs_St} (h : mh_ok P F R ρ) : ∀ n, n ≤ F → mp_wadvs ρ n ≤ 6 * n
  | 0, _ => Nat.le_refl _
  | n + 1, hn => by
    have ih := mp_wadvs_le h n (by omega)
    unfold mp_wadvs
    split
    · omega
    · split
      · omega
      · obtain ⟨-, -, ⟨i, hi, ei⟩, -⟩ := (h.works n (by omega)).2.2.2.2.2.2 n (by omega)
        have := (mp_work_2 (mp_works ρ n).2 n i hi ei).1
        omega
theorem mp_wadvs_mono (ρ : hs_St) (n : Nat) : ∀ m, n ≤ m → mp_wadvs ρ n ≤ mp_wadvs ρ m
  | 0, h => by rw [show n = 0 by omega]; exact Nat.le_refl _
  | m + 1, h => by
    by_cases e : n = m + 1
    · rw [e]; exact Nat.le_refl _
    · have ih := mp_wadvs_mono ρ n m (by omega)
      rw [show mp_wadvs ρ (m + 1) = if 6 ≤ (mp_works ρ m).2 14 m 2 then mp_wadvs ρ m else if (mp_works ρ m).2 14 m 7 = 7 then mp_wadvs ρ m else mp_wadvs ρ m + mp_wadv (mp_works ρ m).2 m from rfl]
      split
      · exact ih
      · split
        · exact ih
        · omega
set_option maxHeartbeats 4000000 in
set_option maxRecDepth 100000 in
/-- the reference: go: the loop at 37 -/
theorem lkX5_go37 {p : Program} {l : Launch} {e : Env} {s : State} {m : MethodId} {args : Array Value} {below : List Frame} {meth : Method} {c0 : Code} {Q : State → Prop} {cells slots : Nat} {D : va_G} {d : hs_Dm} {cB : ClassId} {L : hs_Lo} {A : Nat → Prop} {KC KS : Nat} (P F R : Nat) (ρ : hs_St) (hok : mh_ok P F R ρ) (q : Nat) (hq : q < P) (x z many : Int32) (hx : p.tables.exec = Jvm.exec) (hb : c0.code = cX5_go) (hr : meth.sig.returnType = (some .int)) (hts : ∀ w ∈ wsX5_go, w.before args s = true) (hown : s.vm.findClass RX5 = some m.cls) (hlocks : meth.locks = false) (hml : c0.maxLocals = 8) (hKK : mh_K D d cB s) (hcs : cells ≤ KC ∧ slots ≤ KS) (kK : ∀ (H : Heap) (locs : List Loc), mh_W D d.1 cB L (mp_mons ρ q 3) A H → va_S A s.heap H locs → ∀ ls : Array Slot, lv_has ls 8 [(4, .int (nI q)), (3, .int many), (0, .ref (L 0 0)), (1, .int x), (2, .int z)] → W p l e ({ frames := 5, cells := KC, slots := KS, locals := 150 } : Room) s m args below meth c0 H locs cells slots Q (F0 m 61 ls [])) : ∀ (kk n : Nat), n + kk = 3 → ∀ (H : Heap) (locs : List Loc), mh_W D d.1 cB L (mp_mons ρ q n) A H → va_S A s.heap H locs → ∀ ls : Array Slot, lv_has ls 8 [(5, .int (nI n)), (4, .int (nI q)), (3, .int many), (0, .ref (L 0 0)), (1, .int x), (2, .int z)] → W p l e ({ frames := 5, cells := KC, slots := KS, locals := 150 } : Room) s m args below meth c0 H locs cells slots Q (F0 m 37 ls []) := by
  intro kk
  induction kk with
  | zero =>
    intro n hn H locs hW hS ls hl
    have hnN : n = 3 := by omega
    have h10 := hok.1
    refine lv_iload hx hb dX5_go_37 (lv_at hl 0 rfl) ?_
    refine lv_iconst (v := 3) hx hb dX5_go_39 (by decide) ?_
    refine lv_icmp_ge (tgt := 61) hx hb dX5_go_40 (by decide) (fun c_40 => ?_) (fun c_40 => ?_)
    · subst hnN
      exact kK _ _ hW hS ls (lv_sub hl [1, 2, 3, 4, 5] rfl)
    · exact absurd (by rw [hnN]; exact nI_le (a := 3) (b := 3) (Nat.le_refl _) (by omega)) c_40
  | succ kk ih =>
    intro n hn H locs hW hS ls hl
    have hnN : n < 3 := by omega
    have h10 := hok.1
    refine lv_iload hx hb dX5_go_37 (lv_at hl 0 rfl) ?_
    refine lv_iconst (v := 3) hx hb dX5_go_39 (by decide) ?_
    refine lv_icmp_ge (tgt := 61) hx hb dX5_go_40 (by decide) (fun c_40 => ?_) (fun c_40 => ?_)
    · exact absurd c_40 (nI_ge (b := 3) hnN (by omega))
    · refine lv_aload_n hx hb dX5_go_43 rfl (lv_at hl 3 rfl) ?_
      refine mh_get hx hb hts (by decide +kernel) hown hKK.1 hW 0 (by decide) (hts (.fieldLink RX5 11 "WaxrowModel$House" "persons" "[[I") (by decide +kernel)) rfl (v := .ref (L 1 0)) rfl dX5_go_44 ?_
      refine lv_iload hx hb dX5_go_47 (lv_at hl 1 rfl) ?_
      refine mh_aald hx hb hKK.2.1 hW 1 q (by decide) (by decide) (by have := hok.1; show q < mh_n 1; unfold mh_n; simp; omega) dX5_go_49 ?_
      refine lv_iload hx hb dX5_go_50 (lv_at hl 0 rfl) ?_
      refine mh_mon ⟨hx, hb, hml, hown, hts⟩ (by omega) (by omega) (va_cwS 2 hts gX5_go_X5_month rfl rfl rfl (by decide +kernel) ⟨Nat.le_of_ble_eq_true rfl, Nat.le_of_ble_eq_true rfl⟩) hKK hW hS rfl hl.1 (Nat.le_of_ble_eq_true rfl) dX5_go_52 hcs rfl (fun H locs hW hz hS => ?_)
      have hW : mh_W D d.1 cB L (mp_mons ρ q (n + 1)) A H := hW
      refine lv_iinc (v := nI (n + 1)) (lv' := [(5, .int (nI (n + 1))), (4, .int (nI q)), (3, .int many), (0, .ref (L 0 0)), (1, .int x), (2, .int z)]) hx hb dX5_go_55 hl (k := 0) rfl (nI_succ _).symm (by decide) rfl (fun ls hl => ?_)
      refine lv_goto (tgt := 37) hx hb dX5_go_58 (by decide) ?_
      exact ih (n + 1) (by omega) _ _ hW hS ls (lv_sub hl [0, 1, 2, 3, 4, 5] rfl)
set_option maxHeartbeats 4000000 in
set_option maxRecDepth 100000 in
/-- the reference: go: the loop at 25 -/
theorem lkX5_go25 {p : Program} {l : Launch} {e : Env} {s : State} {m : MethodId} {args : Array Value} {below : List Frame} {meth : Method} {c0 : Code} {Q : State → Prop} {cells slots : Nat} {D : va_G} {d : hs_Dm} {cB : ClassId} {L : hs_Lo} {A : Nat → Prop} {KC KS : Nat} (P F R : Nat) (ρ : hs_St) (hok : mh_ok P F R ρ) (x z many : Int32) (hx : p.tables.exec = Jvm.exec) (hb : c0.code = cX5_go) (hr : meth.sig.returnType = (some .int)) (hts : ∀ w ∈ wsX5_go, w.before args s = true) (hown : s.vm.findClass RX5 = some m.cls) (hlocks : meth.locks = false) (hml : c0.maxLocals = 8) (hKK : mh_K D d cB s) (hcs : cells ≤ KC ∧ slots ≤ KS) (kK : ∀ (H : Heap) (locs : List Loc), mh_W D d.1 cB L (mp_monAll ρ P) A H → va_S A s.heap H locs → ∀ ls : Array Slot, lv_has ls 8 [(3, .int many), (0, .ref (L 0 0)), (1, .int x), (2, .int z)] → W p l e ({ frames := 5, cells := KC, slots := KS, locals := 150 } : Room) s m args below meth c0 H locs cells slots Q (F0 m 67 ls [])) : ∀ (kk n : Nat), n + kk = P → ∀ (H : Heap) (locs : List Loc), mh_W D d.1 cB L (mp_monAll ρ n) A H → va_S A s.heap H locs → ∀ ls : Array Slot, lv_has ls 8 [(4, .int (nI n)), (3, .int many), (0, .ref (L 0 0)), (1, .int x), (2, .int z)] → W p l e ({ frames := 5, cells := KC, slots := KS, locals := 150 } : Room) s m args below meth c0 H locs cells slots Q (F0 m 25 ls []) := by
  intro kk
  induction kk with
  | zero =>
    intro n hn H locs hW hS ls hl
    have hnN : n = P := by omega
    have h10 := hok.1
    refine lv_iload hx hb dX5_go_25 (lv_at hl 0 rfl) ?_
    refine lv_aload_n hx hb dX5_go_27 rfl (lv_at hl 2 rfl) ?_
    refine mh_get hx hb hts (by decide +kernel) hown hKK.1 hW 6 (by decide) (hts (.fieldLink RX5 53 "WaxrowModel$House" "personCount" "I") (by decide +kernel)) rfl (v := .int ((mp_monAll ρ n) 0 0 6)) rfl dX5_go_28 ?_
    rw [show (mp_monAll ρ n) 0 0 6 = nI P from (hok.monAll n).2.2.2.1]
    refine lv_icmp_ge (tgt := 67) hx hb dX5_go_31 (by decide) (fun c_31 => ?_) (fun c_31 => ?_)
    · subst hnN
      exact kK _ _ hW hS ls (lv_sub hl [1, 2, 3, 4] rfl)
    · exact absurd (by rw [hnN]; exact nI_le (a := P) (b := P) (Nat.le_refl _) (by omega)) c_31
  | succ kk ih =>
    intro n hn H locs hW hS ls hl
    have hnN : n < P := by omega
    have h10 := hok.1
    refine lv_iload hx hb dX5_go_25 (lv_at hl 0 rfl) ?_
    refine lv_aload_n hx hb dX5_go_27 rfl (lv_at hl 2 rfl) ?_
    refine mh_get hx hb hts (by decide +kernel) hown hKK.1 hW 6 (by decide) (hts (.fieldLink RX5 53 "WaxrowModel$House" "personCount" "I") (by decide +kernel)) rfl (v := .int ((mp_monAll ρ n) 0 0 6)) rfl dX5_go_28 ?_
    rw [show (mp_monAll ρ n) 0 0 6 = nI P from (hok.monAll n).2.2.2.1]
    refine lv_icmp_ge (tgt := 67) hx hb dX5_go_31 (by decide) (fun c_31 => ?_) (fun c_31 => ?_)
    · exact absurd c_31 (nI_ge (b := P) hnN (by omega))
    · refine lv_iconst (v := 0) hx hb dX5_go_34 (by decide) ?_
      refine lv_istore (lv' := [(5, .int 0), (4, .int (nI n)), (3, .int many), (0, .ref (L 0 0)), (1, .int x), (2, .int z)]) hx hb dX5_go_35 hl (by decide) rfl (fun ls hl => ?_)
      refine lkX5_go37 P F R (mp_monAll ρ n) (hok.monAll n) n hnN x z many hx hb hr hts hown hlocks hml hKK hcs (fun H locs hW hS ls hl => ?_) 3 0 (by omega) _ _ hW hS ls (lv_sub hl [0, 1, 2, 3, 4, 5] rfl)
      refine lv_iinc (v := nI (n + 1)) (lv' := [(4, .int (nI (n + 1))), (3, .int many), (0, .ref (L 0 0)), (1, .int x), (2, .int z)]) hx hb dX5_go_61 hl (k := 0) rfl (nI_succ _).symm (by decide) rfl (fun ls hl => ?_)
      refine lv_goto (tgt := 25) hx hb dX5_go_64 (by decide) ?_
      exact ih (n + 1) (by omega) _ _ hW hS ls (lv_sub hl [0, 1, 2, 3, 4] rfl)
set_option maxHeartbeats 4000000 in
set_option maxRecDepth 100000 in
/-- the reference: go: the loop at 70 -/
theorem lkX5_go70 {p : Program} {l : Launch} {e : Env} {s : State} {m : MethodId} {args : Array Value} {below : List Frame} {meth : Method} {c0 : Code} {Q : State → Prop} {cells slots : Nat} {D : va_G} {d : hs_Dm} {cB : ClassId} {L : hs_Lo} {A : Nat → Prop} {KC KS : Nat} (P F R : Nat) (ρ : hs_St) (hok : mh_ok P F R ρ) (x z : Int32) (hAz : ∀ q, s.heap.size ≤ q → A q) (hx : p.tables.exec = Jvm.exec) (hb : c0.code = cX5_go) (hr : meth.sig.returnType = (some .int)) (hts : ∀ w ∈ wsX5_go, w.before args s = true) (hown : s.vm.findClass RX5 = some m.cls) (hlocks : meth.locks = false) (hml : c0.maxLocals = 8) (hKK : mh_K D d cB s) (hcs : cells + mp_wadvs ρ F ≤ KC ∧ slots + 7 * mp_wadvs ρ F ≤ KS) (kK : ∀ (H : Heap) (locs : List Loc), mh_W D d.1 cB L ((mp_works ρ F).2) A H → va_S A s.heap H locs → ∀ ls : Array Slot, lv_has ls 8 [(3, .int ((mp_works ρ F).1)), (0, .ref (L 0 0)), (1, .int x), (2, .int z)] → W p l e ({ frames := 5, cells := KC, slots := KS, locals := 150 } : Room) s m args below meth c0 H locs (cells + mp_wadvs ρ F) (slots + 7 * mp_wadvs ρ F) Q (F0 m 132 ls [])) : ∀ (kk n : Nat), n + kk = F → ∀ (H : Heap) (locs : List Loc), mh_W D d.1 cB L ((mp_works ρ n).2) A H → va_S A s.heap H locs → ∀ ls : Array Slot, lv_has ls 8 [(4, .int (nI n)), (3, .int ((mp_works ρ n).1)), (0, .ref (L 0 0)), (1, .int x), (2, .int z)] → W p l e ({ frames := 5, cells := KC, slots := KS, locals := 150 } : Room) s m args below meth c0 H locs (cells + mp_wadvs ρ n) (slots + 7 * mp_wadvs ρ n) Q (F0 m 70 ls []) := by
  intro kk
  induction kk with
  | zero =>
    intro n hn H locs hW hS ls hl
    have hnN : n = F := by omega
    have hF8 := hok.2.1
    have h10 := hok.1
    refine lv_iload hx hb dX5_go_70 (lv_at hl 0 rfl) ?_
    refine lv_aload_n hx hb dX5_go_72 rfl (lv_at hl 2 rfl) ?_
    refine mh_get hx hb hts (by decide +kernel) hown hKK.1 hW 7 (by decide) (hts (.fieldLink RX5 56 "WaxrowModel$House" "figureCount" "I") (by decide +kernel)) rfl (v := .int (((mp_works ρ n).2) 0 0 7)) rfl dX5_go_73 ?_
    rw [show ((mp_works ρ n).2) 0 0 7 = nI F from (hok.works n (by omega)).2.2.2.2.1]
    refine lv_icmp_ge (tgt := 132) hx hb dX5_go_76 (by decide) (fun c_76 => ?_) (fun c_76 => ?_)
    · subst hnN
      exact kK _ _ hW hS ls (lv_sub hl [1, 2, 3, 4] rfl)
    · exact absurd (by rw [hnN]; exact nI_le (a := F) (b := F) (Nat.le_refl _) (by omega)) c_76
  | succ kk ih =>
    intro n hn H locs hW hS ls hl
    have hnN : n < F := by omega
    have hF8 := hok.2.1
    have h10 := hok.1
    refine lv_iload hx hb dX5_go_70 (lv_at hl 0 rfl) ?_
    refine lv_aload_n hx hb dX5_go_72 rfl (lv_at hl 2 rfl) ?_
    refine mh_get hx hb hts (by decide +kernel) hown hKK.1 hW 7 (by decide) (hts (.fieldLink RX5 56 "WaxrowModel$House" "figureCount" "I") (by decide +kernel)) rfl (v := .int (((mp_works ρ n).2) 0 0 7)) rfl dX5_go_73 ?_
    rw [show ((mp_works ρ n).2) 0 0 7 = nI F from (hok.works n (by omega)).2.2.2.2.1]
    refine lv_icmp_ge (tgt := 132) hx hb dX5_go_76 (by decide) (fun c_76 => ?_) (fun c_76 => ?_)
    · exact absurd c_76 (nI_ge (b := F) hnN (by omega))
    · refine lv_iload_n hx hb dX5_go_79 rfl (lv_at hl 1 rfl) ?_
      refine lv_aload_n hx hb dX5_go_80 rfl (lv_at hl 2 rfl) ?_
      refine mh_get hx hb hts (by decide +kernel) hown hKK.1 hW 3 (by decide) (hts (.fieldLink RX5 22 "WaxrowModel$House" "figures" "[[I") (by decide +kernel)) rfl (v := .ref (L 4 0)) rfl dX5_go_81 ?_
      refine lv_iload hx hb dX5_go_84 (lv_at hl 0 rfl) ?_
      refine mh_aald hx hb hKK.2.1 hW 4 n (by decide) (by decide) (by show n < mh_n 4; unfold mh_n; simp; omega) dX5_go_86 ?_
      refine lv_iconst (v := 2) hx hb dX5_go_87 (by decide) ?_
      refine mh_iald hx hb hKK.1 hW 14 n (by decide) (mh_ixR (k := 4) (by decide) (by decide) (by show n < mh_n 4; unfold mh_n; simp; omega)) (i := 2) (by unfold vp_in; decide) dX5_go_88 ?_
      rw [show (2 : Int32).toNatClampNeg = 2 from by decide]
      refine lv_bipush (v := 6) hx hb dX5_go_89 (by decide) ?_
      refine lv_icmp_ge (tgt := 123) hx hb dX5_go_91 (by decide) (fun c_91 => ?_) (fun c_91 => ?_)
      · refine lv_iconst (v := 0) hx hb dX5_go_123 (by decide) ?_
        refine lv_iadd hx hb dX5_go_124 ?_
        refine lv_istore_n (lv' := [(3, .int (((mp_works ρ n).1) + 0)), (4, .int (nI n)), (0, .ref (L 0 0)), (1, .int x), (2, .int z)]) hx hb dX5_go_125 rfl hl (by decide) rfl (fun ls hl => ?_)
        refine lv_iinc (v := nI (n + 1)) (lv' := [(4, .int (nI (n + 1))), (3, .int (((mp_works ρ n).1) + 0)), (0, .ref (L 0 0)), (1, .int x), (2, .int z)]) hx hb dX5_go_126 hl (k := 1) rfl (nI_succ _).symm (by decide) rfl (fun ls hl => ?_)
        refine lv_goto (tgt := 70) hx hb dX5_go_129 (by decide) ?_
        have hst : mp_works ρ (n + 1) = (((mp_works ρ n).1) + 0, (mp_works ρ n).2) := if_pos c_91
        have hwv : mp_wadvs ρ (n + 1) = mp_wadvs ρ n := if_pos c_91
        refine W.widen (k := cells + mp_wadvs ρ (n + 1)) (n := slots + 7 * mp_wadvs ρ (n + 1)) (by omega) (by omega) ?_
        exact ih (n + 1) (by omega) _ _ (by rw [hst]; exact hW) hS ls (by rw [hst]; exact (lv_sub hl [0, 1, 2, 3, 4] rfl))
      · refine lv_aload_n hx hb dX5_go_94 rfl (lv_at hl 2 rfl) ?_
        refine mh_get hx hb hts (by decide +kernel) hown hKK.1 hW 3 (by decide) (hts (.fieldLink RX5 22 "WaxrowModel$House" "figures" "[[I") (by decide +kernel)) rfl (v := .ref (L 4 0)) rfl dX5_go_95 ?_
        refine lv_iload hx hb dX5_go_98 (lv_at hl 0 rfl) ?_
        refine mh_aald hx hb hKK.2.1 hW 4 n (by decide) (by decide) (by show n < mh_n 4; unfold mh_n; simp; omega) dX5_go_100 ?_
        refine lv_bipush (v := 7) hx hb dX5_go_101 (by decide) ?_
        refine mh_iald hx hb hKK.1 hW 14 n (by decide) (mh_ixR (k := 4) (by decide) (by decide) (by show n < mh_n 4; unfold mh_n; simp; omega)) (i := 7) (by unfold vp_in; decide) dX5_go_103 ?_
        rw [show (7 : Int32).toNatClampNeg = 7 from by decide]
        refine lv_bipush (v := 7) hx hb dX5_go_104 (by decide) ?_
        refine lv_icmp_eq (tgt := 123) hx hb dX5_go_106 (by decide) (fun c_106 => ?_) (fun c_106 => ?_)
        · refine lv_iconst (v := 0) hx hb dX5_go_123 (by decide) ?_
          refine lv_iadd hx hb dX5_go_124 ?_
          refine lv_istore_n (lv' := [(3, .int (((mp_works ρ n).1) + 0)), (4, .int (nI n)), (0, .ref (L 0 0)), (1, .int x), (2, .int z)]) hx hb dX5_go_125 rfl hl (by decide) rfl (fun ls hl => ?_)
          refine lv_iinc (v := nI (n + 1)) (lv' := [(4, .int (nI (n + 1))), (3, .int (((mp_works ρ n).1) + 0)), (0, .ref (L 0 0)), (1, .int x), (2, .int z)]) hx hb dX5_go_126 hl (k := 1) rfl (nI_succ _).symm (by decide) rfl (fun ls hl => ?_)
          refine lv_goto (tgt := 70) hx hb dX5_go_129 (by decide) ?_
          have hst : mp_works ρ (n + 1) = (((mp_works ρ n).1) + 0, (mp_works ρ n).2) := (if_neg c_91).trans (if_pos c_106)
          have hwv : mp_wadvs ρ (n + 1) = mp_wadvs ρ n := (if_neg c_91).trans (if_pos c_106)
          refine W.widen (k := cells + mp_wadvs ρ (n + 1)) (n := slots + 7 * mp_wadvs ρ (n + 1)) (by omega) (by omega) ?_
          exact ih (n + 1) (by omega) _ _ (by rw [hst]; exact hW) hS ls (by rw [hst]; exact (lv_sub hl [0, 1, 2, 3, 4] rfl))
        · refine lv_aload_n hx hb dX5_go_109 rfl (lv_at hl 2 rfl) ?_
          refine lv_aload_n hx hb dX5_go_110 rfl (lv_at hl 2 rfl) ?_
          refine mh_get hx hb hts (by decide +kernel) hown hKK.1 hW 3 (by decide) (hts (.fieldLink RX5 22 "WaxrowModel$House" "figures" "[[I") (by decide +kernel)) rfl (v := .ref (L 4 0)) rfl dX5_go_111 ?_
          refine lv_iload hx hb dX5_go_114 (lv_at hl 0 rfl) ?_
          refine mh_aald hx hb hKK.2.1 hW 4 n (by decide) (by decide) (by show n < mh_n 4; unfold mh_n; simp; omega) dX5_go_116 ?_
          obtain ⟨⟨h0, h0l, h0e⟩, -, hj, -⟩ := (hok.works n (by omega)).2.2.2.2.2.2 n hnN
          have hwv : mp_wadvs ρ (n + 1) = mp_wadvs ρ n + mp_wadv (mp_works ρ n).2 n := by rw [mp_wadvs, if_neg c_91, if_neg c_106]
          have hwl := mp_wadvs_mono ρ (n + 1) F (by omega)
          refine mh_calli (As := [.ref (L 14 n)]) ⟨hx, hb, hml, hown, hts⟩ (kX5_work l D d cB L A (mp_works ρ n).2 n (by omega) h0 (by omega) h0e H.size (fun q h => hAz q (Nat.le_trans hS.1 h)) hj) (cwV 1 hts gX5_go_X5_work rfl rfl rfl (by decide +kernel) ⟨Nat.le_of_ble_eq_true rfl, Nat.le_of_ble_eq_true rfl⟩) hKK hW hS rfl hl.1 (Nat.le_of_ble_eq_true rfl) dX5_go_117 ⟨by show cells + mp_wadvs ρ n + mp_wadv (mp_works ρ n).2 n ≤ KC; omega, by show slots + 7 * mp_wadvs ρ n + 7 * mp_wadv (mp_works ρ n).2 n ≤ KS; omega⟩ rfl (fun r_ τ_ H locs hp hW hz hqq hS => ?_)
          have er_ : (mp_work (mp_works ρ n).2 n).1 = r_ := by rw [hp]
          have et_ : (mp_work (mp_works ρ n).2 n).2 = τ_ := by rw [hp]
          subst er_ et_
          refine lv_goto (tgt := 124) hx hb dX5_go_120 (by decide) ?_
          refine lv_iadd hx hb dX5_go_124 ?_
          refine lv_istore_n (lv' := [(3, .int (((mp_works ρ n).1) + ((mp_work (mp_works ρ n).2 n).1))), (4, .int (nI n)), (0, .ref (L 0 0)), (1, .int x), (2, .int z)]) hx hb dX5_go_125 rfl hl (by decide) rfl (fun ls hl => ?_)
          refine lv_iinc (v := nI (n + 1)) (lv' := [(4, .int (nI (n + 1))), (3, .int (((mp_works ρ n).1) + ((mp_work (mp_works ρ n).2 n).1))), (0, .ref (L 0 0)), (1, .int x), (2, .int z)]) hx hb dX5_go_126 hl (k := 1) rfl (nI_succ _).symm (by decide) rfl (fun ls hl => ?_)
          refine lv_goto (tgt := 70) hx hb dX5_go_129 (by decide) ?_
          have hst : mp_works ρ (n + 1) = (((mp_works ρ n).1) + ((mp_work (mp_works ρ n).2 n).1), (mp_work (mp_works ρ n).2 n).2) := (if_neg c_91).trans (if_neg c_106)
          refine W.widen (k := cells + mp_wadvs ρ (n + 1)) (n := slots + 7 * mp_wadvs ρ (n + 1)) (by omega) (by omega) ?_
          exact ih (n + 1) (by omega) _ _ (by rw [hst]; exact hW) hS ls (by rw [hst]; exact (lv_sub hl [0, 1, 2, 3, 4] rfl))
