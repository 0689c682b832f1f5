/-! THE REFERENCE'S person, figure, pass -/
def mp_hi (ρ : hs_St) (q : Nat) : Nat → hs_St
  | 0 => ρ
  | n + 1 => hs_sg (mp_hi ρ q n) 13 q n 99
theorem mh_ok.hi {P F R : Nat} {ρ : hs_St} (h : mh_ok P F R ρ) (q : Nat) : ∀ n, mh_ok P F R (mp_hi ρ q n)
  | 0 => h
  | n + 1 => (mh_ok.hi h q n).sg11 13 q n 99 (by decide) (by decide)
def mp_newP (ρ : hs_St) (P : Nat) (x y z : Int32) : hs_St := hs_sg (mp_hi (hs_sg (hs_sg (hs_sg ρ 11 P 0 x) 11 P 1 y) 11 P 2 z) P 6) 0 0 6 (nI P + 1)
def mp_personP (P : Nat) (ρ : hs_St) (x y z : Int32) (r : Int32) (X : mm_X) : Prop := if mp_in x 0 999 = 0 then ((0 : Int32) = r ∧ (1 : Int32) = X.1 ∧ ρ = X.2) else if mp_in y 0 999 = 0 then ((0 : Int32) = r ∧ (1 : Int32) = X.1 ∧ ρ = X.2) else if mp_in z 0 999 = 0 then ((0 : Int32) = r ∧ (1 : Int32) = X.1 ∧ ρ = X.2) else if nI P = 10 then ((0 : Int32) = r ∧ (2 : Int32) = X.1 ∧ ρ = X.2) else (nI P = r ∧ (0 : Int32) = X.1 ∧ mp_newP ρ P x y z = X.2)
set_option maxHeartbeats 4000000 in
set_option maxRecDepth 100000 in
/-- the reference: X6_person: the loop at 97 -/
theorem lkX6_person (l : Launch) (D : va_G) (d : hs_Dm) (cB : ClassId) (L : hs_Lo) (m0 : Nat) (th : Int32) (ρ : hs_St) (A : Nat → Prop) (sz : Nat) (P F R : Nat) (hok : mh_ok P F R ρ) (hP : P < 10) {p : Program} {e : Env} {s : State} {m : MethodId} {args : Array Value} {below : List Frame} {meth : Method} {c0 : Code} (hx : p.tables.exec = Jvm.exec) (hb : c0.code = cX6_person) (hr : meth.sig.returnType = (some .int)) (hts : ∀ w ∈ wsX6_person, w.before args s = true) (hown : s.vm.findClass RX6 = some m.cls) (hlocks : meth.locks = false) (hml : c0.maxLocals = 6) (hKK : mh_K D d cB s) : ∀ (kk n : Nat), n + kk = 6 → ∀ (H : Heap) (locs : List Loc), mm_W D d cB L m0 0 (mp_hi ρ P n) A H → va_S A s.heap H locs → ∀ ls : Array Slot, lv_has ls 6 [(5, .int (nI n)), (0, .ref m0)] → W p l e (({ frames := 1, cells := 0, slots := 0, locals := 40 } : Room)) s m args below meth c0 H locs 0 0 (MQ below (va_Qi (fun r X => nI P = r ∧ (0 : Int32) = X.1 ∧ hs_sg (mp_hi ρ P 6) 0 0 6 (nI P + 1) = X.2) (fun (X : mm_X) t => mm_W D d cB L m0 X.1 X.2 A t.heap) A) args s 0 0 A) (F0 m 97 ls []) := by
  intro kk
  induction kk with
  | zero =>
    intro n hn H locs hM hS ls hl
    have hnN : n = 6 := by omega
    have hW := hM.2.1
    refine lv_iload hx hb dX6_person_97 (lv_at hl 0 rfl) ?_
    refine lv_bipush (v := 6) hx hb dX6_person_99 (by decide) ?_
    refine lv_icmp_ge (tgt := 130) hx hb dX6_person_101 (by decide) (fun c_101 => ?_) (fun c_101 => ?_)
    · refine lv_aload_n hx hb dX6_person_130 rfl (lv_at hl 1 rfl) ?_
      refine mm_house hx hb hts (by decide +kernel) hown hKK.1 hM (hts (.fieldLink RX6 10 "WaxrowModel" "house" "LWaxrowModel$House;") (by decide +kernel)) dX6_person_131 ?_
      have hW := hM.2.1
      refine lv_dup hx hb dX6_person_134 rfl ?_
      refine mh_get hx hb hts (by decide +kernel) hown hKK.1 hW 6 (by decide) (hts (.fieldLink RX6 29 "WaxrowModel$House" "personCount" "I") (by decide +kernel)) rfl (v := .int ((mp_hi ρ P n) 0 0 6)) rfl dX6_person_135 ?_
      rw [show (mp_hi ρ P n) 0 0 6 = nI P from (hok.hi P n).2.2.2.1]
      refine lv_dup_x1 hx hb dX6_person_138 rfl rfl ?_
      refine lv_iconst (v := 1) hx hb dX6_person_139 (by decide) ?_
      refine lv_iadd hx hb dX6_person_140 ?_
      have hW := hM.2.1
      refine mh_puti hx hb hts (by decide +kernel) hown hKK.1 hW hS 6 (by decide) (hts (.fieldLink RX6 29 "WaxrowModel$House" "personCount" "I") (by decide +kernel)) rfl rfl ((nI P) + 1) (by decide +kernel) rfl dX6_person_141 (fun H locs hW hS hz hq => ?_)
      have hW : mh_W D d.1 cB L (hs_sg (mp_hi ρ P n) 0 0 6 ((nI P) + 1)) A H := hW
      have hM : mm_W D d cB L m0 0 (hs_sg (mp_hi ρ P n) 0 0 6 ((nI P) + 1)) A H := ⟨hM.1.kept (hq _ (fun z => hM.2.2.2 0 0 (mh_ixO (by decide)) z.symm)), hW, hM.2.2⟩
      exact W.iret (v := nI P) hx hb hr (fun t ht hW9 => ⟨⟨nI P, (0, hs_sg (mp_hi ρ P n) 0 0 6 ((nI P) + 1)), rfl, (by subst hnN; exact ⟨rfl, rfl, rfl⟩), by show mm_W D d cB L m0 _ _ A t.heap; rw [ht]; exact hM⟩, hS.F ht⟩) hS.2.2 dX6_person_144
    · exact absurd (by rw [hnN]; exact nI_le (a := 6) (b := 6) (Nat.le_refl _) (by decide)) c_101
  | succ kk ih =>
    intro n hn H locs hM hS ls hl
    have hnN : n < 6 := by omega
    have hW := hM.2.1
    refine lv_iload hx hb dX6_person_97 (lv_at hl 0 rfl) ?_
    refine lv_bipush (v := 6) hx hb dX6_person_99 (by decide) ?_
    refine lv_icmp_ge (tgt := 130) hx hb dX6_person_101 (by decide) (fun c_101 => ?_) (fun c_101 => ?_)
    · exact absurd c_101 (nI_ge (b := 6) hnN (by decide))
    · refine lv_aload_n hx hb dX6_person_104 rfl (lv_at hl 1 rfl) ?_
      refine mm_house hx hb hts (by decide +kernel) hown hKK.1 hM (hts (.fieldLink RX6 10 "WaxrowModel" "house" "LWaxrowModel$House;") (by decide +kernel)) dX6_person_105 ?_
      have hW := hM.2.1
      refine mh_get hx hb hts (by decide +kernel) hown hKK.1 hW 2 (by decide) (hts (.fieldLink RX6 50 "WaxrowModel$House" "high" "[[I") (by decide +kernel)) rfl (v := .ref (L 3 0)) rfl dX6_person_108 ?_
      refine lv_aload_n hx hb dX6_person_111 rfl (lv_at hl 1 rfl) ?_
      refine mm_house hx hb hts (by decide +kernel) hown hKK.1 hM (hts (.fieldLink RX6 10 "WaxrowModel" "house" "LWaxrowModel$House;") (by decide +kernel)) dX6_person_112 ?_
      have hW := hM.2.1
      refine mh_get hx hb hts (by decide +kernel) hown hKK.1 hW 6 (by decide) (hts (.fieldLink RX6 29 "WaxrowModel$House" "personCount" "I") (by decide +kernel)) rfl (v := .int ((mp_hi ρ P n) 0 0 6)) rfl dX6_person_115 ?_
      rw [show (mp_hi ρ P n) 0 0 6 = nI P from (hok.hi P n).2.2.2.1]
      refine mh_aald hx hb hKK.2.1 hW 3 P (by decide) (by decide) (by show P < mh_n 3; unfold mh_n; simp; omega) dX6_person_118 ?_
      refine lv_iload hx hb dX6_person_119 (lv_at hl 0 rfl) ?_
      refine lv_bipush (v := 99) hx hb dX6_person_121 (by decide) ?_
      have hW := hM.2.1
      refine mh_iast hx hb hKK.1 hW hS 13 P (by decide) (mh_ixR (k := 3) (by decide) (by decide) (by show P < mh_n 3; unfold mh_n; simp; omega)) (i := nI n) (x := 99) (by unfold vp_in; exact nI_in (show n < 6 by omega) (by decide)) dX6_person_123 (fun H locs hW hS hz hq => ?_)
      rw [show (nI n : Int32).toNatClampNeg = n from nI_clamp (by omega)] at hW
      have hW : mh_W D d.1 cB L (hs_sg (mp_hi ρ P n) 13 P n (99 : Int32)) A H := hW
      have hM : mm_W D d cB L m0 0 (hs_sg (mp_hi ρ P n) 13 P n (99 : Int32)) A H := ⟨hM.1.kept (hq _ (fun z => hM.2.2.2 13 P (mh_ixR (k := 3) (by decide) (by decide) (by show P < mh_n 3; unfold mh_n; simp; omega)) z.symm)), hW, hM.2.2⟩
      refine lv_iinc (v := nI (n + 1)) (lv' := [(5, .int (nI (n + 1))), (0, .ref m0)]) hx hb dX6_person_124 hl (k := 0) rfl (nI_succ _).symm (by decide) rfl (fun ls hl => ?_)
      refine lv_goto (tgt := 97) hx hb dX6_person_127 (by decide) ?_
      have hM : mm_W D d cB L m0 0 (mp_hi ρ P (n + 1)) A H := hM
      exact ih (n + 1) (by omega) _ _ hM hS ls (lv_sub hl [0, 1] rfl)
set_option maxHeartbeats 4000000 in
set_option maxRecDepth 100000 in
/-- the reference: X6_person -/
theorem kX6_person (l : Launch) (D : va_G) (d : hs_Dm) (cB : ClassId) (L : hs_Lo) (m0 : Nat) (th : Int32) (ρ : hs_St) (A : Nat → Prop) (sz : Nat) (P F R : Nat) (hok : mh_ok P F R ρ) (x y z : Int32) : mm_Mi l yX6_person wsX6_person ({ frames := 1, cells := 0, slots := 0, locals := 40 } : Room) D d cB L m0 th ρ A sz [.ref m0, .int x, .int y, .int z] (fun r X => mp_personP P ρ x y z r X) 0 0 := by
  refine Met.ofW (cc := cX6_person) (maxL := 6) (ret := (some .int)) (by decide) rfl ?_
  intro p e s m args below meth c0 s₁ B hml hv
  obtain ⟨rfl, hsz, hM, hKK⟩ := hv
  have hx := B.exec
  have hb := B.bytes
  have hr := B.returns
  have hts := atoms_spec (ws := wsX6_person) B.pre
  have hown : s.vm.findClass RX6 = some m.cls := findClass_of_methodNamed B.named
  have hlocks := B.notSynchronized
  have hS : va_S A s.heap s.heap [] := va_S.rf
  have hl := lv_entry ([.ref m0, .int x, .int y, .int z]) (n := 6) (Nat.le_of_ble_eq_true rfl)
  rw [lg_entry_eq]
  generalize (lg_sl ([.ref m0, .int x, .int y, .int z]) ++ List.replicate (6 - (lg_sl ([.ref m0, .int x, .int y, .int z])).length) Slot.unset).toArray = ls at hl ⊢
  have hl : lv_has ls 6 [(0, .ref m0), (1, .int x), (2, .int y), (3, .int z)] := hl
  refine lv_aload_n hx hb dX6_person_0 rfl (lv_at hl 0 rfl) ?_
  refine lv_iconst (v := 0) hx hb dX6_person_1 (by decide) ?_
  refine mm_putt hx hb hts (by decide +kernel) hown hKK.1 hM hS (hts (.fieldLink RX6 16 "WaxrowModel" "thrown" "I") (by decide +kernel)) (0 : Int32) dX6_person_2 (fun H locs hM hS hz => ?_)
  have hM : mm_W D d cB L m0 0 ρ A H := hM
  have hW := hM.2.1
  refine lv_iload_n hx hb dX6_person_5 rfl (lv_at hl 1 rfl) ?_
  refine lv_iconst (v := 0) hx hb dX6_person_6 (by decide) ?_
  refine lv_sipush (v := 999) hx hb dX6_person_7 (by decide) ?_
  refine mm_pure (As := [.int x, .int 0, .int 999]) ⟨hx, hb, hml, hown, hts⟩ (kX6_in l (x) (0) (999)) (va_cwS 3 hts gX6_person_X6_in rfl rfl rfl (by decide +kernel) ⟨Nat.le_of_ble_eq_true rfl, Nat.le_of_ble_eq_true rfl⟩) hM hS rfl hl.1 (Nat.le_of_ble_eq_true rfl) dX6_person_10 ⟨Nat.le_of_ble_eq_true rfl, Nat.le_of_ble_eq_true rfl⟩ rfl (fun r_ H locs hp hM hz hS => ?_)
  subst hp
  have hM : mm_W D d cB L m0 0 ρ A H := hM
  have hW := hM.2.1
  refine lv_if_eq (tgt := 38) hx hb dX6_person_13 (by decide) (fun c_13 => ?_) (fun c_13 => ?_)
  · refine lv_aload_n hx hb dX6_person_38 rfl (lv_at hl 0 rfl) ?_
    refine lv_iconst (v := 1) hx hb dX6_person_39 (by decide) ?_
    refine mm_calli (As := [.int 1]) ⟨hx, hb, hml, hown, hts⟩ (kX6_no l D d cB L m0 (0 : Int32) ρ A H.size 1) (cwV 1 hts gX6_person_X6_no rfl rfl rfl (by decide +kernel) ⟨Nat.le_of_ble_eq_true rfl, Nat.le_of_ble_eq_true rfl⟩) hKK hM hS rfl hl.1 (Nat.le_of_ble_eq_true rfl) dX6_person_40 ⟨Nat.le_of_ble_eq_true rfl, Nat.le_of_ble_eq_true rfl⟩ rfl (fun r_ X_ H locs hp hM hz hS => ?_)
    obtain ⟨t_, τ_⟩ := X_
    obtain ⟨e1_, e2_, e3_⟩ := hp
    have e2_ : (1 : Int32) = t_ := e2_
    have e3_ : ρ = τ_ := e3_
    subst e1_ e2_ e3_
    have hM : mm_W D d cB L m0 1 ρ A H := hM
    have hW := hM.2.1
    exact W.iret (v := 0) hx hb hr (fun t ht hW9 => ⟨⟨0, (1, ρ), rfl, (by show mp_personP P ρ x y z _ _; unfold mp_personP; rw [if_pos c_13]; exact ⟨rfl, rfl, rfl⟩), by show mm_W D d cB L m0 _ _ A t.heap; rw [ht]; exact hM⟩, hS.F ht⟩) hS.2.2 dX6_person_43
  · refine lv_iload_n hx hb dX6_person_16 rfl (lv_at hl 2 rfl) ?_
    refine lv_iconst (v := 0) hx hb dX6_person_17 (by decide) ?_
    refine lv_sipush (v := 999) hx hb dX6_person_18 (by decide) ?_
    refine mm_pure (As := [.int y, .int 0, .int 999]) ⟨hx, hb, hml, hown, hts⟩ (kX6_in l (y) (0) (999)) (va_cwS 3 hts gX6_person_X6_in rfl rfl rfl (by decide +kernel) ⟨Nat.le_of_ble_eq_true rfl, Nat.le_of_ble_eq_true rfl⟩) hM hS rfl hl.1 (Nat.le_of_ble_eq_true rfl) dX6_person_21 ⟨Nat.le_of_ble_eq_true rfl, Nat.le_of_ble_eq_true rfl⟩ rfl (fun r_ H locs hp hM hz hS => ?_)
    subst hp
    have hM : mm_W D d cB L m0 0 ρ A H := hM
    have hW := hM.2.1
    refine lv_if_eq (tgt := 38) hx hb dX6_person_24 (by decide) (fun c_24 => ?_) (fun c_24 => ?_)
    · refine lv_aload_n hx hb dX6_person_38 rfl (lv_at hl 0 rfl) ?_
      refine lv_iconst (v := 1) hx hb dX6_person_39 (by decide) ?_
      refine mm_calli (As := [.int 1]) ⟨hx, hb, hml, hown, hts⟩ (kX6_no l D d cB L m0 (0 : Int32) ρ A H.size 1) (cwV 1 hts gX6_person_X6_no rfl rfl rfl (by decide +kernel) ⟨Nat.le_of_ble_eq_true rfl, Nat.le_of_ble_eq_true rfl⟩) hKK hM hS rfl hl.1 (Nat.le_of_ble_eq_true rfl) dX6_person_40 ⟨Nat.le_of_ble_eq_true rfl, Nat.le_of_ble_eq_true rfl⟩ rfl (fun r_ X_ H locs hp hM hz hS => ?_)
      obtain ⟨t_, τ_⟩ := X_
      obtain ⟨e1_, e2_, e3_⟩ := hp
      have e2_ : (1 : Int32) = t_ := e2_
      have e3_ : ρ = τ_ := e3_
      subst e1_ e2_ e3_
      have hM : mm_W D d cB L m0 1 ρ A H := hM
      have hW := hM.2.1
      exact W.iret (v := 0) hx hb hr (fun t ht hW9 => ⟨⟨0, (1, ρ), rfl, (by show mp_personP P ρ x y z _ _; unfold mp_personP; rw [if_neg c_13, if_pos c_24]; exact ⟨rfl, rfl, rfl⟩), by show mm_W D d cB L m0 _ _ A t.heap; rw [ht]; exact hM⟩, hS.F ht⟩) hS.2.2 dX6_person_43
    · refine lv_iload_n hx hb dX6_person_27 rfl (lv_at hl 3 rfl) ?_
      refine lv_iconst (v := 0) hx hb dX6_person_28 (by decide) ?_
      refine lv_sipush (v := 999) hx hb dX6_person_29 (by decide) ?_
      refine mm_pure (As := [.int z, .int 0, .int 999]) ⟨hx, hb, hml, hown, hts⟩ (kX6_in l (z) (0) (999)) (va_cwS 3 hts gX6_person_X6_in rfl rfl rfl (by decide +kernel) ⟨Nat.le_of_ble_eq_true rfl, Nat.le_of_ble_eq_true rfl⟩) hM hS rfl hl.1 (Nat.le_of_ble_eq_true rfl) dX6_person_32 ⟨Nat.le_of_ble_eq_true rfl, Nat.le_of_ble_eq_true rfl⟩ rfl (fun r_ H locs hp hM hz hS => ?_)
      subst hp
      have hM : mm_W D d cB L m0 0 ρ A H := hM
      have hW := hM.2.1
      refine lv_if_ne (tgt := 44) hx hb dX6_person_35 (by decide) (fun c_35 => ?_) (fun c_35 => ?_)
      · refine lv_aload_n hx hb dX6_person_44 rfl (lv_at hl 0 rfl) ?_
        refine mm_house hx hb hts (by decide +kernel) hown hKK.1 hM (hts (.fieldLink RX6 10 "WaxrowModel" "house" "LWaxrowModel$House;") (by decide +kernel)) dX6_person_45 ?_
        have hW := hM.2.1
        refine mh_get hx hb hts (by decide +kernel) hown hKK.1 hW 6 (by decide) (hts (.fieldLink RX6 29 "WaxrowModel$House" "personCount" "I") (by decide +kernel)) rfl (v := .int (ρ 0 0 6)) rfl dX6_person_48 ?_
        rw [show ρ 0 0 6 = nI P from hok.2.2.2.1]
        refine lv_bipush (v := 10) hx hb dX6_person_51 (by decide) ?_
        refine lv_icmp_ne (tgt := 62) hx hb dX6_person_53 (by decide) (fun c_53 => ?_) (fun c_53 => ?_)
        · have hP : P < 10 := by have h5 := hok.1; have h6 : P ≠ 10 := (fun e9 => c_53 (by rw [e9]; rfl)); omega
          refine lv_aload_n hx hb dX6_person_62 rfl (lv_at hl 0 rfl) ?_
          refine mm_house hx hb hts (by decide +kernel) hown hKK.1 hM (hts (.fieldLink RX6 10 "WaxrowModel" "house" "LWaxrowModel$House;") (by decide +kernel)) dX6_person_63 ?_
          have hW := hM.2.1
          refine mh_get hx hb hts (by decide +kernel) hown hKK.1 hW 0 (by decide) (hts (.fieldLink RX6 46 "WaxrowModel$House" "persons" "[[I") (by decide +kernel)) rfl (v := .ref (L 1 0)) rfl dX6_person_66 ?_
          refine lv_aload_n hx hb dX6_person_69 rfl (lv_at hl 0 rfl) ?_
          refine mm_house hx hb hts (by decide +kernel) hown hKK.1 hM (hts (.fieldLink RX6 10 "WaxrowModel" "house" "LWaxrowModel$House;") (by decide +kernel)) dX6_person_70 ?_
          have hW := hM.2.1
          refine mh_get hx hb hts (by decide +kernel) hown hKK.1 hW 6 (by decide) (hts (.fieldLink RX6 29 "WaxrowModel$House" "personCount" "I") (by decide +kernel)) rfl (v := .int (ρ 0 0 6)) rfl dX6_person_73 ?_
          rw [show ρ 0 0 6 = nI P from hok.2.2.2.1]
          refine mh_aald hx hb hKK.2.1 hW 1 P (by decide) (by decide) (by show P < mh_n 1; unfold mh_n; simp; omega) dX6_person_76 ?_
          refine lv_astore (lv' := [(4, .ref (L 11 P)), (0, .ref m0), (1, .int x), (2, .int y), (3, .int z)]) hx hb dX6_person_77 hl (by decide) rfl (fun ls hl => ?_)
          refine lv_aload hx hb dX6_person_79 (lv_at hl 0 rfl) ?_
          refine lv_iconst (v := 0) hx hb dX6_person_81 (by decide) ?_
          refine lv_iload_n hx hb dX6_person_82 rfl (lv_at hl 2 rfl) ?_
          have hW := hM.2.1
          refine mh_iast hx hb hKK.1 hW hS 11 P (by decide) (mh_ixR (k := 1) (by decide) (by decide) (by show P < mh_n 1; unfold mh_n; simp; omega)) (i := 0) (x := x) (by unfold vp_in; decide) dX6_person_83 (fun H locs hW hS hz hq => ?_)
          rw [show (0 : Int32).toNatClampNeg = 0 from by decide] at hW
          have hW : mh_W D d.1 cB L (hs_sg ρ 11 P 0 x) A H := hW
          have hM : mm_W D d cB L m0 0 (hs_sg ρ 11 P 0 x) A H := ⟨hM.1.kept (hq _ (fun z => hM.2.2.2 11 P (mh_ixR (k := 1) (by decide) (by decide) (by show P < mh_n 1; unfold mh_n; simp; omega)) z.symm)), hW, hM.2.2⟩
          refine lv_aload hx hb dX6_person_84 (lv_at hl 0 rfl) ?_
          refine lv_iconst (v := 1) hx hb dX6_person_86 (by decide) ?_
          refine lv_iload_n hx hb dX6_person_87 rfl (lv_at hl 3 rfl) ?_
          have hW := hM.2.1
          refine mh_iast hx hb hKK.1 hW hS 11 P (by decide) (mh_ixR (k := 1) (by decide) (by decide) (by show P < mh_n 1; unfold mh_n; simp; omega)) (i := 1) (x := y) (by unfold vp_in; decide) dX6_person_88 (fun H locs hW hS hz hq => ?_)
          rw [show (1 : Int32).toNatClampNeg = 1 from by decide] at hW
          have hW : mh_W D d.1 cB L (hs_sg (hs_sg ρ 11 P 0 x) 11 P 1 y) A H := hW
          have hM : mm_W D d cB L m0 0 (hs_sg (hs_sg ρ 11 P 0 x) 11 P 1 y) A H := ⟨hM.1.kept (hq _ (fun z => hM.2.2.2 11 P (mh_ixR (k := 1) (by decide) (by decide) (by show P < mh_n 1; unfold mh_n; simp; omega)) z.symm)), hW, hM.2.2⟩
          refine lv_aload hx hb dX6_person_89 (lv_at hl 0 rfl) ?_
          refine lv_iconst (v := 2) hx hb dX6_person_91 (by decide) ?_
          refine lv_iload_n hx hb dX6_person_92 rfl (lv_at hl 4 rfl) ?_
          have hW := hM.2.1
          refine mh_iast hx hb hKK.1 hW hS 11 P (by decide) (mh_ixR (k := 1) (by decide) (by decide) (by show P < mh_n 1; unfold mh_n; simp; omega)) (i := 2) (x := z) (by unfold vp_in; decide) dX6_person_93 (fun H locs hW hS hz hq => ?_)
          rw [show (2 : Int32).toNatClampNeg = 2 from by decide] at hW
          have hW : mh_W D d.1 cB L (hs_sg (hs_sg (hs_sg ρ 11 P 0 x) 11 P 1 y) 11 P 2 z) A H := hW
          have hM : mm_W D d cB L m0 0 (hs_sg (hs_sg (hs_sg ρ 11 P 0 x) 11 P 1 y) 11 P 2 z) A H := ⟨hM.1.kept (hq _ (fun z => hM.2.2.2 11 P (mh_ixR (k := 1) (by decide) (by decide) (by show P < mh_n 1; unfold mh_n; simp; omega)) z.symm)), hW, hM.2.2⟩
          refine lv_iconst (v := 0) hx hb dX6_person_94 (by decide) ?_
          refine lv_istore (lv' := [(5, .int 0), (4, .ref (L 11 P)), (0, .ref m0), (1, .int x), (2, .int y), (3, .int z)]) hx hb dX6_person_95 hl (by decide) rfl (fun ls hl => ?_)
          refine MQ_post (lkX6_person l D d cB L m0 0 (hs_sg (hs_sg (hs_sg ρ 11 P 0 x) 11 P 1 y) 11 P 2 z) A sz P F R (((hok.sg11 11 P 0 x (by decide) (by decide)).sg11 11 P 1 y (by decide) (by decide)).sg11 11 P 2 z (by decide) (by decide)) hP hx hb hr hts hown hlocks hml hKK 6 0 (by omega) _ _ hM hS ls (lv_sub hl [0, 2] rfl)) (fun r X h => ?_)
          exact (by show mp_personP P ρ x y z r X; unfold mp_personP; rw [if_neg c_13, if_neg c_24, if_neg c_35, if_neg c_53]; exact h)
        · refine lv_aload_n hx hb dX6_person_56 rfl (lv_at hl 0 rfl) ?_
          refine lv_iconst (v := 2) hx hb dX6_person_57 (by decide) ?_
          refine mm_calli (As := [.int 2]) ⟨hx, hb, hml, hown, hts⟩ (kX6_no l D d cB L m0 (0 : Int32) ρ A H.size 2) (cwV 1 hts gX6_person_X6_no rfl rfl rfl (by decide +kernel) ⟨Nat.le_of_ble_eq_true rfl, Nat.le_of_ble_eq_true rfl⟩) hKK hM hS rfl hl.1 (Nat.le_of_ble_eq_true rfl) dX6_person_58 ⟨Nat.le_of_ble_eq_true rfl, Nat.le_of_ble_eq_true rfl⟩ rfl (fun r_ X_ H locs hp hM hz hS => ?_)
          obtain ⟨t_, τ_⟩ := X_
          obtain ⟨e1_, e2_, e3_⟩ := hp
          have e2_ : (2 : Int32) = t_ := e2_
          have e3_ : ρ = τ_ := e3_
          subst e1_ e2_ e3_
          have hM : mm_W D d cB L m0 2 ρ A H := hM
          have hW := hM.2.1
          exact W.iret (v := 0) hx hb hr (fun t ht hW9 => ⟨⟨0, (2, ρ), rfl, (by show mp_personP P ρ x y z _ _; unfold mp_personP; rw [if_neg c_13, if_neg c_24, if_neg c_35, if_pos c_53]; exact ⟨rfl, rfl, rfl⟩), by show mm_W D d cB L m0 _ _ A t.heap; rw [ht]; exact hM⟩, hS.F ht⟩) hS.2.2 dX6_person_61
      · refine lv_aload_n hx hb dX6_person_38 rfl (lv_at hl 0 rfl) ?_
        refine lv_iconst (v := 1) hx hb dX6_person_39 (by decide) ?_
        refine mm_calli (As := [.int 1]) ⟨hx, hb, hml, hown, hts⟩ (kX6_no l D d cB L m0 (0 : Int32) ρ A H.size 1) (cwV 1 hts gX6_person_X6_no rfl rfl rfl (by decide +kernel) ⟨Nat.le_of_ble_eq_true rfl, Nat.le_of_ble_eq_true rfl⟩) hKK hM hS rfl hl.1 (Nat.le_of_ble_eq_true rfl) dX6_person_40 ⟨Nat.le_of_ble_eq_true rfl, Nat.le_of_ble_eq_true rfl⟩ rfl (fun r_ X_ H locs hp hM hz hS => ?_)
        obtain ⟨t_, τ_⟩ := X_
        obtain ⟨e1_, e2_, e3_⟩ := hp
        have e2_ : (1 : Int32) = t_ := e2_
        have e3_ : ρ = τ_ := e3_
        subst e1_ e2_ e3_
        have hM : mm_W D d cB L m0 1 ρ A H := hM
        have hW := hM.2.1
        exact W.iret (v := 0) hx hb hr (fun t ht hW9 => ⟨⟨0, (1, ρ), rfl, (by show mp_personP P ρ x y z _ _; unfold mp_personP; rw [if_neg c_13, if_neg c_24, if_pos c_35]; exact ⟨rfl, rfl, rfl⟩), by show mm_W D d cB L m0 _ _ A t.heap; rw [ht]; exact hM⟩, hS.F ht⟩) hS.2.2 dX6_person_43
def mp_newFr (x : Int32) : Nat → Int32 := upd (upd (upd (upd (upd (upd (upd (upd (upd (upd (upd (fun _ => 0) 0 x) 1 x) 2 0) 3 (mp_needs 0)) 4 0) 5 0) 6 0) 7 5) 8 0) 9 0) 10 0
def mp_newF (ρ : hs_St) (F : Nat) (x : Int32) : hs_St := hs_sg (hs_row ρ 14 F (va_cpy (mp_newFr x) (ρ 14 F) 0 0 11)) 0 0 7 (nI F + 1)
def mp_figureP (P F : Nat) (ρ : hs_St) (x : Int32) (r : Int32) (X : mm_X) : Prop := if mp_in x 0 (nI P - 1) = 0 then ((0 : Int32) = r ∧ (1 : Int32) = X.1 ∧ ρ = X.2) else if nI F = 8 then ((0 : Int32) = r ∧ (2 : Int32) = X.1 ∧ ρ = X.2) else (nI F = r ∧ (0 : Int32) = X.1 ∧ mp_newF ρ F x = X.2)
set_option maxHeartbeats 4000000 in
set_option maxRecDepth 100000 in
/-- the reference: X6_figure -/
theorem kX6_figure (l : Launch) (D : va_G) (d : hs_Dm) (cB : ClassId) (L : hs_Lo) (m0 : Nat) (th : Int32) (ρ : hs_St) (A : Nat → Prop) (sz : Nat) (P F R : Nat) (hok : mh_ok P F R ρ) (x : Int32) (hA : mh_A A sz) : mm_Mi l yX6_figure wsX6_figure ({ frames := 2, cells := 2, slots := 18, locals := 60 } : Room) D d cB L m0 th ρ A sz [.ref m0, .int x] (fun r X => mp_figureP P F ρ x r X) 2 18 := by
  refine Met.ofW (cc := cX6_figure) (maxL := 3) (ret := (some .int)) (by decide) rfl ?_
  intro p e s m args below meth c0 s₁ B hml hv
  obtain ⟨rfl, hsz, hM, hKK⟩ := hv
  have hx := B.exec
  have hb := B.bytes
  have hr := B.returns
  have hts := atoms_spec (ws := wsX6_figure) B.pre
  have hown : s.vm.findClass RX6 = some m.cls := findClass_of_methodNamed B.named
  have hlocks := B.notSynchronized
  have hS : va_S A s.heap s.heap [] := va_S.rf
  have hl := lv_entry ([.ref m0, .int x]) (n := 3) (Nat.le_of_ble_eq_true rfl)
  rw [lg_entry_eq]
  generalize (lg_sl ([.ref m0, .int x]) ++ List.replicate (3 - (lg_sl ([.ref m0, .int x])).length) Slot.unset).toArray = ls at hl ⊢
  have hl : lv_has ls 3 [(0, .ref m0), (1, .int x)] := hl
  have hAz : ∀ q, s.heap.size ≤ q → A q := fun q h9 => hA q (by rw [hsz] at h9; exact h9)
  refine lv_aload_n hx hb dX6_figure_0 rfl (lv_at hl 0 rfl) ?_
  refine lv_iconst (v := 0) hx hb dX6_figure_1 (by decide) ?_
  refine mm_putt hx hb hts (by decide +kernel) hown hKK.1 hM hS (hts (.fieldLink RX6 16 "WaxrowModel" "thrown" "I") (by decide +kernel)) (0 : Int32) dX6_figure_2 (fun H locs hM hS hz => ?_)
  have hM : mm_W D d cB L m0 0 ρ A H := hM
  have hW := hM.2.1
  refine lv_aload_n hx hb dX6_figure_5 rfl (lv_at hl 0 rfl) ?_
  refine lv_iload_n hx hb dX6_figure_6 rfl (lv_at hl 1 rfl) ?_
  refine mm_calli (As := [.int x]) ⟨hx, hb, hml, hown, hts⟩ (kX6_isPerson l D d cB L m0 (0 : Int32) ρ A H.size P F R hok x) (cwV 1 hts gX6_figure_X6_isPerson rfl rfl rfl (by decide +kernel) ⟨Nat.le_of_ble_eq_true rfl, Nat.le_of_ble_eq_true rfl⟩) hKK hM hS rfl hl.1 (Nat.le_of_ble_eq_true rfl) dX6_figure_7 ⟨Nat.le_of_ble_eq_true rfl, Nat.le_of_ble_eq_true rfl⟩ rfl (fun r_ X_ H locs hp hM hz hS => ?_)
  obtain ⟨t_, τ_⟩ := X_
  obtain ⟨e1_, e2_, e3_⟩ := hp
  have e2_ : (0 : Int32) = t_ := e2_
  have e3_ : ρ = τ_ := e3_
  subst e1_ e2_ e3_
  have hM : mm_W D d cB L m0 0 ρ A H := hM
  have hW := hM.2.1
  refine lv_if_ne (tgt := 19) hx hb dX6_figure_10 (by decide) (fun c_10 => ?_) (fun c_10 => ?_)
  · refine lv_aload_n hx hb dX6_figure_19 rfl (lv_at hl 0 rfl) ?_
    refine mm_house hx hb hts (by decide +kernel) hown hKK.1 hM (hts (.fieldLink RX6 10 "WaxrowModel" "house" "LWaxrowModel$House;") (by decide +kernel)) dX6_figure_20 ?_
    have hW := hM.2.1
    refine mh_get hx hb hts (by decide +kernel) hown hKK.1 hW 7 (by decide) (hts (.fieldLink RX6 36 "WaxrowModel$House" "figureCount" "I") (by decide +kernel)) rfl (v := .int (ρ 0 0 7)) rfl dX6_figure_23 ?_
    rw [show ρ 0 0 7 = nI F from hok.2.2.2.2.1]
    refine lv_bipush (v := 8) hx hb dX6_figure_26 (by decide) ?_
    refine lv_icmp_ne (tgt := 37) hx hb dX6_figure_28 (by decide) (fun c_28 => ?_) (fun c_28 => ?_)
    · have hF7 : F < 8 := by have h5 := hok.2.1; have h6 : F ≠ 8 := (fun e9 => c_28 (by rw [e9]; rfl)); omega
      refine lv_bipush (v := 11) hx hb dX6_figure_37 (by decide) ?_
      refine mm_newa hx hb (hts (.arrayClass .int) (by decide +kernel)) hKK.1 hAz hM hS (by decide) (N' := 11) rfl (by decide) (Nat.le_of_ble_eq_true rfl) (Nat.le_of_ble_eq_true rfl) dX6_figure_39 (fun H v hM nv hAv hv hz hoq hv9 hS => ?_)
      have hW := hM.2.1
      refine lv_dup hx hb dX6_figure_41 rfl ?_
      refine lv_iconst (v := 0) hx hb dX6_figure_42 (by decide) ?_
      refine lv_iload_n hx hb dX6_figure_43 rfl (lv_at hl 1 rfl) ?_
      refine mm_niast hx hb hKK.1 hM hS hv nv hAv (i := 0) (x := x) (by unfold vp_in; decide) dX6_figure_44 (fun H locs hM hv hz hq hS => ?_)
      have hW := hM.2.1
      rw [show (0 : Int32).toNatClampNeg = 0 from by decide] at hv
      refine lv_dup hx hb dX6_figure_45 rfl ?_
      refine lv_iconst (v := 1) hx hb dX6_figure_46 (by decide) ?_
      refine lv_iload_n hx hb dX6_figure_47 rfl (lv_at hl 1 rfl) ?_
      refine mm_niast hx hb hKK.1 hM hS hv nv hAv (i := 1) (x := x) (by unfold vp_in; decide) dX6_figure_48 (fun H locs hM hv hz hq hS => ?_)
      have hW := hM.2.1
      rw [show (1 : Int32).toNatClampNeg = 1 from by decide] at hv
      refine lv_dup hx hb dX6_figure_49 rfl ?_
      refine lv_iconst (v := 2) hx hb dX6_figure_50 (by decide) ?_
      refine lv_iconst (v := 0) hx hb dX6_figure_51 (by decide) ?_
      refine mm_niast hx hb hKK.1 hM hS hv nv hAv (i := 2) (x := 0) (by unfold vp_in; decide) dX6_figure_52 (fun H locs hM hv hz hq hS => ?_)
      have hW := hM.2.1
      rw [show (2 : Int32).toNatClampNeg = 2 from by decide] at hv
      refine lv_dup hx hb dX6_figure_53 rfl ?_
      refine lv_iconst (v := 3) hx hb dX6_figure_54 (by decide) ?_
      refine lv_iconst (v := 0) hx hb dX6_figure_55 (by decide) ?_
      refine mm_needs (j := 0) ⟨hx, hb, hml, hown, hts⟩ (kX6_needs l D d H.size 0 (by decide)) (va_cwS 1 hts gX6_figure_X6_needs rfl rfl rfl (by decide +kernel) ⟨Nat.le_of_ble_eq_true rfl, Nat.le_of_ble_eq_true rfl⟩) hKK.1 hAz hM hS rfl hl.1 (Nat.le_of_ble_eq_true rfl) dX6_figure_56 ⟨Nat.le_of_ble_eq_true rfl, Nat.le_of_ble_eq_true rfl⟩ rfl (fun H locs hM hz hoq hS => ?_)
      have hW := hM.2.1
      have hv := hv.kept (hoq _ hv.lt)
      refine mm_niast hx hb hKK.1 hM hS hv nv hAv (i := 3) (x := mp_needs 0) (by unfold vp_in; decide) dX6_figure_59 (fun H locs hM hv hz hq hS => ?_)
      have hW := hM.2.1
      rw [show (3 : Int32).toNatClampNeg = 3 from by decide] at hv
      refine lv_dup hx hb dX6_figure_60 rfl ?_
      refine lv_iconst (v := 4) hx hb dX6_figure_61 (by decide) ?_
      refine lv_iconst (v := 0) hx hb dX6_figure_62 (by decide) ?_
      refine mm_niast hx hb hKK.1 hM hS hv nv hAv (i := 4) (x := 0) (by unfold vp_in; decide) dX6_figure_63 (fun H locs hM hv hz hq hS => ?_)
      have hW := hM.2.1
      rw [show (4 : Int32).toNatClampNeg = 4 from by decide] at hv
      refine lv_dup hx hb dX6_figure_64 rfl ?_
      refine lv_iconst (v := 5) hx hb dX6_figure_65 (by decide) ?_
      refine lv_iconst (v := 0) hx hb dX6_figure_66 (by decide) ?_
      refine mm_niast hx hb hKK.1 hM hS hv nv hAv (i := 5) (x := 0) (by unfold vp_in; decide) dX6_figure_67 (fun H locs hM hv hz hq hS => ?_)
      have hW := hM.2.1
      rw [show (5 : Int32).toNatClampNeg = 5 from by decide] at hv
      refine lv_dup hx hb dX6_figure_68 rfl ?_
      refine lv_bipush (v := 6) hx hb dX6_figure_69 (by decide) ?_
      refine lv_iconst (v := 0) hx hb dX6_figure_71 (by decide) ?_
      refine mm_niast hx hb hKK.1 hM hS hv nv hAv (i := 6) (x := 0) (by unfold vp_in; decide) dX6_figure_72 (fun H locs hM hv hz hq hS => ?_)
      have hW := hM.2.1
      rw [show (6 : Int32).toNatClampNeg = 6 from by decide] at hv
      refine lv_dup hx hb dX6_figure_73 rfl ?_
      refine lv_bipush (v := 7) hx hb dX6_figure_74 (by decide) ?_
      refine lv_iconst (v := 5) hx hb dX6_figure_76 (by decide) ?_
      refine mm_niast hx hb hKK.1 hM hS hv nv hAv (i := 7) (x := 5) (by unfold vp_in; decide) dX6_figure_77 (fun H locs hM hv hz hq hS => ?_)
      have hW := hM.2.1
      rw [show (7 : Int32).toNatClampNeg = 7 from by decide] at hv
      refine lv_dup hx hb dX6_figure_78 rfl ?_
      refine lv_bipush (v := 8) hx hb dX6_figure_79 (by decide) ?_
      refine lv_iconst (v := 0) hx hb dX6_figure_81 (by decide) ?_
      refine mm_niast hx hb hKK.1 hM hS hv nv hAv (i := 8) (x := 0) (by unfold vp_in; decide) dX6_figure_82 (fun H locs hM hv hz hq hS => ?_)
      have hW := hM.2.1
      rw [show (8 : Int32).toNatClampNeg = 8 from by decide] at hv
      refine lv_dup hx hb dX6_figure_83 rfl ?_
      refine lv_bipush (v := 9) hx hb dX6_figure_84 (by decide) ?_
      refine lv_iconst (v := 0) hx hb dX6_figure_86 (by decide) ?_
      refine mm_niast hx hb hKK.1 hM hS hv nv hAv (i := 9) (x := 0) (by unfold vp_in; decide) dX6_figure_87 (fun H locs hM hv hz hq hS => ?_)
      have hW := hM.2.1
      rw [show (9 : Int32).toNatClampNeg = 9 from by decide] at hv
      refine lv_dup hx hb dX6_figure_88 rfl ?_
      refine lv_bipush (v := 10) hx hb dX6_figure_89 (by decide) ?_
      refine lv_iconst (v := 0) hx hb dX6_figure_91 (by decide) ?_
      refine mm_niast hx hb hKK.1 hM hS hv nv hAv (i := 10) (x := 0) (by unfold vp_in; decide) dX6_figure_92 (fun H locs hM hv hz hq hS => ?_)
      have hW := hM.2.1
      rw [show (10 : Int32).toNatClampNeg = 10 from by decide] at hv
      refine lv_astore_n (lv' := [(2, .ref v), (0, .ref m0), (1, .int x)]) hx hb dX6_figure_93 rfl hl (by decide) rfl (fun ls hl => ?_)
      refine lv_aload_n hx hb dX6_figure_94 rfl (lv_at hl 0 rfl) ?_
      refine lv_iconst (v := 0) hx hb dX6_figure_95 (by decide) ?_
      refine lv_aload_n hx hb dX6_figure_96 rfl (lv_at hl 1 rfl) ?_
      refine mm_house hx hb hts (by decide +kernel) hown hKK.1 hM (hts (.fieldLink RX6 10 "WaxrowModel" "house" "LWaxrowModel$House;") (by decide +kernel)) dX6_figure_97 ?_
      have hW := hM.2.1
      refine mh_get hx hb hts (by decide +kernel) hown hKK.1 hW 3 (by decide) (hts (.fieldLink RX6 60 "WaxrowModel$House" "figures" "[[I") (by decide +kernel)) rfl (v := .ref (L 4 0)) rfl dX6_figure_100 ?_
      refine lv_aload_n hx hb dX6_figure_103 rfl (lv_at hl 1 rfl) ?_
      refine mm_house hx hb hts (by decide +kernel) hown hKK.1 hM (hts (.fieldLink RX6 10 "WaxrowModel" "house" "LWaxrowModel$House;") (by decide +kernel)) dX6_figure_104 ?_
      have hW := hM.2.1
      refine mh_get hx hb hts (by decide +kernel) hown hKK.1 hW 7 (by decide) (hts (.fieldLink RX6 36 "WaxrowModel$House" "figureCount" "I") (by decide +kernel)) rfl (v := .int (ρ 0 0 7)) rfl dX6_figure_107 ?_
      rw [show ρ 0 0 7 = nI F from hok.2.2.2.2.1]
      refine mh_aald hx hb hKK.2.1 hW 4 F (by decide) (by decide) (by show F < mh_n 4; unfold mh_n; simp; omega) dX6_figure_110 ?_
      refine lv_iconst (v := 0) hx hb dX6_figure_111 (by decide) ?_
      refine lv_aload_n hx hb dX6_figure_112 rfl (lv_at hl 0 rfl) ?_
      refine mm_nalen hx hb hKK.1 hv (x := 11) rfl dX6_figure_113 ?_
      refine mm_copyin (N := 11) (k := 14) (q := F) hx hb (by rw [hml]; exact hl.1.symm) hown (hts (.methodLink RX6 76 arraycopyName) (by decide +kernel)) (hts (.native arraycopyName) (by decide +kernel)) (hts (.static arraycopyName) (by decide +kernel)) (hts (.initialized "java/lang/System") (by decide +kernel)) hKK.1 hM hS hv nv (by decide) (mh_ixR (k := 4) (by decide) (by decide) (by show F < mh_n 4; unfold mh_n; simp; omega)) (by decide) (by decide) (by decide) (by decide +kernel) (Nat.le_of_ble_eq_true rfl) (Nat.le_of_ble_eq_true rfl) dX6_figure_114 (fun H locs hM hv hz hS => ?_)
      have hM : mm_W D d cB L m0 0 (hs_row ρ 14 F (va_cpy (upd (upd (upd (upd (upd (upd (upd (upd (upd (upd (upd (fun _ => 0) 0 x) 1 x) 2 (0 : Int32)) 3 (mp_needs 0)) 4 (0 : Int32)) 5 (0 : Int32)) 6 (0 : Int32)) 7 (5 : Int32)) 8 (0 : Int32)) 9 (0 : Int32)) 10 (0 : Int32)) (ρ 14 F) 0 0 11)) A H := hM
      have hW := hM.2.1
      refine lv_aload_n hx hb dX6_figure_117 rfl (lv_at hl 1 rfl) ?_
      refine mm_house hx hb hts (by decide +kernel) hown hKK.1 hM (hts (.fieldLink RX6 10 "WaxrowModel" "house" "LWaxrowModel$House;") (by decide +kernel)) dX6_figure_118 ?_
      have hW := hM.2.1
      refine lv_dup hx hb dX6_figure_121 rfl ?_
      refine mh_get hx hb hts (by decide +kernel) hown hKK.1 hW 7 (by decide) (hts (.fieldLink RX6 36 "WaxrowModel$House" "figureCount" "I") (by decide +kernel)) rfl (v := .int ((hs_row ρ 14 F (va_cpy (upd (upd (upd (upd (upd (upd (upd (upd (upd (upd (upd (fun _ => 0) 0 x) 1 x) 2 (0 : Int32)) 3 (mp_needs 0)) 4 (0 : Int32)) 5 (0 : Int32)) 6 (0 : Int32)) 7 (5 : Int32)) 8 (0 : Int32)) 9 (0 : Int32)) 10 (0 : Int32)) (ρ 14 F) 0 0 11)) 0 0 7)) rfl dX6_figure_122 ?_
      rw [show (hs_row ρ 14 F (va_cpy (upd (upd (upd (upd (upd (upd (upd (upd (upd (upd (upd (fun _ => 0) 0 x) 1 x) 2 (0 : Int32)) 3 (mp_needs 0)) 4 (0 : Int32)) 5 (0 : Int32)) 6 (0 : Int32)) 7 (5 : Int32)) 8 (0 : Int32)) 9 (0 : Int32)) 10 (0 : Int32)) (ρ 14 F) 0 0 11)) 0 0 7 = nI F from (if_neg (by omega)).trans hok.2.2.2.2.1]
      refine lv_dup_x1 hx hb dX6_figure_125 rfl rfl ?_
      refine lv_iconst (v := 1) hx hb dX6_figure_126 (by decide) ?_
      refine lv_iadd hx hb dX6_figure_127 ?_
      have hW := hM.2.1
      refine mh_puti hx hb hts (by decide +kernel) hown hKK.1 hW hS 7 (by decide) (hts (.fieldLink RX6 36 "WaxrowModel$House" "figureCount" "I") (by decide +kernel)) rfl rfl ((nI F) + 1) (by decide +kernel) rfl dX6_figure_128 (fun H locs hW hS hz hq => ?_)
      have hW : mh_W D d.1 cB L (hs_sg (hs_row ρ 14 F (va_cpy (upd (upd (upd (upd (upd (upd (upd (upd (upd (upd (upd (fun _ => 0) 0 x) 1 x) 2 (0 : Int32)) 3 (mp_needs 0)) 4 (0 : Int32)) 5 (0 : Int32)) 6 (0 : Int32)) 7 (5 : Int32)) 8 (0 : Int32)) 9 (0 : Int32)) 10 (0 : Int32)) (ρ 14 F) 0 0 11)) 0 0 7 ((nI F) + 1)) A H := hW
      have hM : mm_W D d cB L m0 0 (hs_sg (hs_row ρ 14 F (va_cpy (upd (upd (upd (upd (upd (upd (upd (upd (upd (upd (upd (fun _ => 0) 0 x) 1 x) 2 (0 : Int32)) 3 (mp_needs 0)) 4 (0 : Int32)) 5 (0 : Int32)) 6 (0 : Int32)) 7 (5 : Int32)) 8 (0 : Int32)) 9 (0 : Int32)) 10 (0 : Int32)) (ρ 14 F) 0 0 11)) 0 0 7 ((nI F) + 1)) A H := ⟨hM.1.kept (hq _ (fun z => hM.2.2.2 0 0 (mh_ixO (by decide)) z.symm)), hW, hM.2.2⟩
      refine W.widen (k := 2) (n := 18) (by omega) (by omega) ?_
      exact W.iret (v := nI F) hx hb hr (fun t ht hW9 => ⟨⟨nI F, (0, hs_sg (hs_row ρ 14 F (va_cpy (upd (upd (upd (upd (upd (upd (upd (upd (upd (upd (upd (fun _ => 0) 0 x) 1 x) 2 (0 : Int32)) 3 (mp_needs 0)) 4 (0 : Int32)) 5 (0 : Int32)) 6 (0 : Int32)) 7 (5 : Int32)) 8 (0 : Int32)) 9 (0 : Int32)) 10 (0 : Int32)) (ρ 14 F) 0 0 11)) 0 0 7 ((nI F) + 1)), rfl, (by show mp_figureP P F ρ x _ _; unfold mp_figureP; rw [if_neg c_10, if_neg c_28]; exact ⟨rfl, rfl, rfl⟩), by show mm_W D d cB L m0 _ _ A t.heap; rw [ht]; exact hM⟩, hS.F ht⟩) hS.2.2 dX6_figure_131
    · refine lv_aload_n hx hb dX6_figure_31 rfl (lv_at hl 0 rfl) ?_
      refine lv_iconst (v := 2) hx hb dX6_figure_32 (by decide) ?_
      refine mm_calli (As := [.int 2]) ⟨hx, hb, hml, hown, hts⟩ (kX6_no l D d cB L m0 (0 : Int32) ρ A H.size 2) (cwV 1 hts gX6_figure_X6_no rfl rfl rfl (by decide +kernel) ⟨Nat.le_of_ble_eq_true rfl, Nat.le_of_ble_eq_true rfl⟩) hKK hM hS rfl hl.1 (Nat.le_of_ble_eq_true rfl) dX6_figure_33 ⟨Nat.le_of_ble_eq_true rfl, Nat.le_of_ble_eq_true rfl⟩ rfl (fun r_ X_ H locs hp hM hz hS => ?_)
      obtain ⟨t_, τ_⟩ := X_
      obtain ⟨e1_, e2_, e3_⟩ := hp
      have e2_ : (2 : Int32) = t_ := e2_
      have e3_ : ρ = τ_ := e3_
      subst e1_ e2_ e3_
      have hM : mm_W D d cB L m0 2 ρ A H := hM
      have hW := hM.2.1
      refine W.widen (k := 2) (n := 18) (by omega) (by omega) ?_
      exact W.iret (v := 0) hx hb hr (fun t ht hW9 => ⟨⟨0, (2, ρ), rfl, (by show mp_figureP P F ρ x _ _; unfold mp_figureP; rw [if_neg c_10, if_pos c_28]; exact ⟨rfl, rfl, rfl⟩), by show mm_W D d cB L m0 _ _ A t.heap; rw [ht]; exact hM⟩, hS.F ht⟩) hS.2.2 dX6_figure_36
  · refine lv_aload_n hx hb dX6_figure_13 rfl (lv_at hl 0 rfl) ?_
    refine lv_iconst (v := 1) hx hb dX6_figure_14 (by decide) ?_
    refine mm_calli (As := [.int 1]) ⟨hx, hb, hml, hown, hts⟩ (kX6_no l D d cB L m0 (0 : Int32) ρ A H.size 1) (cwV 1 hts gX6_figure_X6_no rfl rfl rfl (by decide +kernel) ⟨Nat.le_of_ble_eq_true rfl, Nat.le_of_ble_eq_true rfl⟩) hKK hM hS rfl hl.1 (Nat.le_of_ble_eq_true rfl) dX6_figure_15 ⟨Nat.le_of_ble_eq_true rfl, Nat.le_of_ble_eq_true rfl⟩ rfl (fun r_ X_ H locs hp hM hz hS => ?_)
    obtain ⟨t_, τ_⟩ := X_
    obtain ⟨e1_, e2_, e3_⟩ := hp
    have e2_ : (1 : Int32) = t_ := e2_
    have e3_ : ρ = τ_ := e3_
    subst e1_ e2_ e3_
    have hM : mm_W D d cB L m0 1 ρ A H := hM
    have hW := hM.2.1
    refine W.widen (k := 2) (n := 18) (by omega) (by omega) ?_
    exact W.iret (v := 0) hx hb hr (fun t ht hW9 => ⟨⟨0, (1, ρ), rfl, (by show mp_figureP P F ρ x _ _; unfold mp_figureP; rw [if_pos c_10]; exact ⟨rfl, rfl, rfl⟩), by show mm_W D d cB L m0 _ _ A t.heap; rw [ht]; exact hM⟩, hS.F ht⟩) hS.2.2 dX6_figure_18
/-- how many steps are still to be climbed -/
def mp_pot (ρ : hs_St) : Nat → Nat
  | 0 => 0
  | n + 1 => mp_pot ρ n + (6 - (ρ 14 n 2).toNatClampNeg)
theorem mp_pot_le (ρ : hs_St) : ∀ n, mp_pot ρ n ≤ 6 * n
  | 0 => Nat.le_refl _
  | n + 1 => by
    have := mp_pot_le ρ n
    unfold mp_pot
    omega
theorem mp_pot_eq {ρ τ : hs_St} : ∀ n, (∀ f, f < n → τ 14 f 2 = ρ 14 f 2) → mp_pot τ n = mp_pot ρ n
  | 0, _ => rfl
  | n + 1, h => by
    unfold mp_pot
    rw [mp_pot_eq n (fun f hf => h f (by omega)), h n (by omega)]
theorem mp_mons_14 (ρ : hs_St) (q f j : Nat) : ∀ n, mp_mons ρ q n 14 f j = ρ 14 f j
  | 0 => rfl
  | n + 1 => by
    show hs_row (mp_mons ρ q n) 11 q _ 14 f j = _
    unfold hs_row
    rw [if_neg (fun z => absurd z.1 (by decide))]
    exact mp_mons_14 ρ q f j n
theorem mp_monAll_14 (ρ : hs_St) (f j : Nat) : ∀ n, mp_monAll ρ n 14 f j = ρ 14 f j
  | 0 => rfl
  | n + 1 => (mp_mons_14 _ n f j 3).trans (mp_monAll_14 ρ f j n)
theorem mp_dawn_14 (ρ : hs_St) (P f j : Nat) : mp_dawn ρ P 14 f j = ρ 14 f j := by
  unfold mp_dawn
  split
  · rw [mp_monAll_14, pc9, if_neg (by omega)]
  · rw [pc9, if_neg (by omega)]
theorem mp_works_off (ρ : hs_St) (f j : Nat) : ∀ n, n ≤ f → (mp_works ρ n).2 14 f j = ρ 14 f j
  | 0, _ => rfl
  | n + 1, h => by
    have ih := mp_works_off ρ f j n (by omega)
    unfold mp_works
    split
    · exact ih
    · split
      · exact ih
      · show (mp_work (mp_works ρ n).2 n).2 14 f j = _
        rw [mp_work_off _ _ _ _ _ (by omega)]
        exact ih
theorem mp_works_keep (ρ : hs_St) (f j : Nat) : ∀ k n, f < n → (mp_works ρ (n + k)).2 14 f j = (mp_works ρ n).2 14 f j
  | 0, _, _ => rfl
  | k + 1, n, h => by
    have ih := mp_works_keep ρ f j k n h
    rw [show n + (k + 1) = (n + k) + 1 by omega]
    rw [show mp_works ρ (n + k + 1) = _ from rfl, mp_works]
    split
    · exact ih
    · split
      · exact ih
      · show (mp_work (mp_works ρ (n + k)).2 (n + k)).2 14 f j = _
        rw [mp_work_off _ _ _ _ _ (by omega)]
        exact ih
theorem mp_works_pot {ρ : hs_St} : ∀ n, (∀ f, f < n → ∃ j, j ≤ 6 ∧ ρ 14 f 2 = nI j) → mp_pot (mp_works ρ n).2 n + mp_wadvs ρ n = mp_pot ρ n
  | 0, _ => rfl
  | n + 1, h => by
    have ih := mp_works_pot n (fun f hf => h f (by omega))
    obtain ⟨j, hj, e⟩ := h n (by omega)
    have e1 : (mp_works ρ n).2 14 n 2 = nI j := (mp_works_off ρ n 2 n (Nat.le_refl _)).trans e
    have ep : mp_pot (mp_works ρ (n + 1)).2 n = mp_pot (mp_works ρ n).2 n := mp_pot_eq n (fun f hf => mp_works_keep ρ f 2 1 n hf)
    have ec : (nI j).toNatClampNeg = j := nI_clamp (by omega)
    rw [mp_pot, mp_pot, mp_wadvs, ep, e, ec]
    have eoff : (mp_works ρ (n + 1)).2 14 n 2 = if 6 ≤ (mp_works ρ n).2 14 n 2 then nI j else if (mp_works ρ n).2 14 n 7 = 7 then nI j else nI (j + mp_wadv (mp_works ρ n).2 n) := by
      rw [mp_works]
      split
      · exact e1
      · split
        · exact e1
        · exact (mp_work_2 _ n j hj e1).2
    rw [eoff]
    split
    · rw [ec]; omega
    · split
      · rw [ec]; omega
      · have h6 := (mp_work_2 _ n j hj e1).1
        rw [nI_clamp (by omega)]
        omega
theorem mp_wears_14 (ρ : hs_St) (g : Nat → Int32) (z c : Int32) (f : Nat) : ∀ n, (mp_wears ρ g z c n).2 14 f 2 = ρ 14 f 2
  | 0 => rfl
  | n + 1 => by
    have ih := mp_wears_14 ρ g z c f n
    unfold mp_wears
    split
    · exact ih
    · rw [← ih]
      unfold mp_wear mp_worn
      split
      · show hs_sg _ 14 n 7 7 14 f 2 = _
        rw [pc9, if_neg (by omega), pc9, if_neg (by omega), pc9, if_neg (by omega), pc9, if_neg (by omega)]
      · show hs_sg _ 14 n 6 _ 14 f 2 = _
        rw [pc9, if_neg (by omega), pc9, if_neg (by omega), pc9, if_neg (by omega)]
theorem mp_trips_14 (ρ : hs_St) (f : Nat) : ∀ n, mp_trips ρ n 14 f 2 = ρ 14 f 2
  | 0 => rfl
  | n + 1 => by
    have ih := mp_trips_14 ρ f n
    unfold mp_trips
    split
    · rw [← ih]
      unfold mp_trip mp_trip1
      split
      · rw [pc9, if_neg (by omega), pc9, if_neg (by omega), pc9, if_neg (by omega), pc9, if_neg (by omega)]
      · rw [pc9, if_neg (by omega), pc9, if_neg (by omega), pc9, if_neg (by omega)]
    · exact ih
theorem mp_go_pot {P F R : Nat} {ρ : hs_St} (h : mh_ok P F R ρ) (x z : Int32) : mp_pot (mp_go ρ P F x z).2 F + mp_wadvs (mp_dawn ρ P) F = mp_pot ρ F := by
  have h1 : mp_pot (mp_go ρ P F x z).2 F = mp_pot (mp_works (mp_dawn ρ P) F).2 F := mp_pot_eq F (fun f _ => by
    unfold mp_go
    show mp_trips _ F 14 f 2 = _
    rw [mp_trips_14, mp_wears_14]
    unfold mp_eve mp_paid
    rw [pc9, if_neg (by omega), pc9, if_neg (by omega)])
  have h2 := mp_works_pot (ρ := mp_dawn ρ P) F (fun f hf => by rw [mp_dawn_14]; exact (h.2.2.2.2.2.2 f hf).2.2.1)
  have h3 : mp_pot (mp_dawn ρ P) F = mp_pot ρ F := mp_pot_eq F (fun f _ => mp_dawn_14 ρ P f 2)
  rw [h1, h2, h3]
/-- days that go by -/
def mp_days (ρ : hs_St) (P F : Nat) (x z : Int32) : Nat → Int32 × hs_St
  | 0 => (0, ρ)
  | n + 1 => ((mp_days ρ P F x z n).1 + (mp_go (mp_days ρ P F x z n).2 P F x z).1, (mp_go (mp_days ρ P F x z n).2 P F x z).2)
theorem mh_ok.days {P F R : Nat} {ρ : hs_St} (h : mh_ok P F R ρ) (x z : Int32) : ∀ n, mh_ok P F R (mp_days ρ P F x z n).2
  | 0 => h
  | n + 1 => (mh_ok.days h x z n).go x z
theorem mp_days_pot {P F R : Nat} {ρ : hs_St} (h : mh_ok P F R ρ) (x z : Int32) : ∀ n, mp_pot (mp_days ρ P F x z n).2 F ≤ mp_pot ρ F
  | 0 => Nat.le_refl _
  | n + 1 => by
    have h1 := mp_days_pot h x z n
    have h2 := mp_go_pot (h.days x z n) x z
    show mp_pot (mp_go _ P F x z).2 F ≤ _
    omega
theorem mp_in_1 {x : Int32} {n : Nat} (hn : n < 2 ^ 31) (h : ¬ mp_in x 1 (nI n) = 0) : ∃ j, 1 ≤ j ∧ j ≤ n ∧ x = nI j := by
  unfold mp_in at h
  by_cases a : x < 1
  · rw [if_pos a] at h
    exact absurd rfl h
  · rw [if_neg a] at h
    by_cases b : nI n < x
    · rw [if_pos b] at h
      exact absurd rfl h
    · have h0 : ¬ x < 0 := fun z => a (by rw [Int32.lt_iff_toInt_lt] at z ⊢; rw [show (0 : Int32).toInt = 0 from by decide] at z; rw [show (1 : Int32).toInt = 1 from by decide]; omega)
      obtain ⟨j, hj, e⟩ := nI_of h0
      subst e
      refine ⟨j, ?_, Nat.le_of_not_lt (fun z => b (nI_lt z hj)), rfl⟩
      cases j with
      | zero => exact absurd (by decide) a
      | succ j => omega
def mp_passP (P F : Nat) (ρ : hs_St) (n x z : Int32) (r : Int32) (X : mm_X) : Prop := if mp_in n 1 40 = 0 then ((0 : Int32) = r ∧ (1 : Int32) = X.1 ∧ ρ = X.2) else if mp_in x 0 2000 = 0 then ((0 : Int32) = r ∧ (1 : Int32) = X.1 ∧ ρ = X.2) else if mp_in z 0 40 = 0 then ((0 : Int32) = r ∧ (1 : Int32) = X.1 ∧ ρ = X.2) else ((mp_days ρ P F x z n.toNatClampNeg).1 = r ∧ (0 : Int32) = X.1 ∧ (mp_days ρ P F x z n.toNatClampNeg).2 = X.2)
set_option maxHeartbeats 4000000 in
set_option maxRecDepth 100000 in
/-- the reference: X6_pass: the loop at 48 -/
theorem lkX6_pass (l : Launch) (D : va_G) (d : hs_Dm) (cB : ClassId) (L : hs_Lo) (m0 : Nat) (th : Int32) (ρ : hs_St) (A : Nat → Prop) (sz : Nat) (P F R : Nat) (hok : mh_ok P F R ρ) (N : Nat) (hN : N ≤ 40) (x z : Int32) {p : Program} {e : Env} {s : State} {m : MethodId} {args : Array Value} {below : List Frame} {meth : Method} {c0 : Code} (hx : p.tables.exec = Jvm.exec) (hb : c0.code = cX6_pass) (hr : meth.sig.returnType = (some .int)) (hts : ∀ w ∈ wsX6_pass, w.before args s = true) (hown : s.vm.findClass RX6 = some m.cls) (hlocks : meth.locks = false) (hml : c0.maxLocals = 6) (hKK : mh_K D d cB s) : ∀ (kk n : Nat), n + kk = N → (∀ q, s.heap.size ≤ q → A q) → ∀ (H : Heap) (locs : List Loc), mm_W D d cB L m0 0 ((mp_days ρ P F x z n).2) A H → va_S A s.heap H locs → ∀ ls : Array Slot, lv_has ls 6 [(5, .int (nI n)), (4, .int ((mp_days ρ P F x z n).1)), (0, .ref m0), (1, .int (nI N)), (2, .int x), (3, .int z)] → W p l e (({ frames := 6, cells := 88, slots := 656, locals := 200 } : Room)) s m args below meth c0 H locs (n + (mp_pot ρ F - mp_pot (mp_days ρ P F x z n).2 F)) (8 * n + 7 * (mp_pot ρ F - mp_pot (mp_days ρ P F x z n).2 F)) (MQ below (va_Qi (fun r X => (mp_days ρ P F x z N).1 = r ∧ (0 : Int32) = X.1 ∧ (mp_days ρ P F x z N).2 = X.2) (fun (X : mm_X) t => mm_W D d cB L m0 X.1 X.2 A t.heap) A) args s 88 656 A) (F0 m 48 ls []) := by
  intro kk
  induction kk with
  | zero =>
    intro n hn hAz H locs hM hS ls hl
    have hnN : n = N := by omega
    have hW := hM.2.1
    have h8 := hok.2.1
    have hp1 := mp_pot_le ρ F
    have hp2 := mp_days_pot hok x z n
    have hp3 := mp_go_pot (hok.days x z n) x z
    have hp4 : mp_pot (mp_days ρ P F x z (n + 1)).2 F = mp_pot (mp_go (mp_days ρ P F x z n).2 P F x z).2 F := rfl
    refine lv_iload hx hb dX6_pass_48 (lv_at hl 0 rfl) ?_
    refine lv_iload_n hx hb dX6_pass_50 rfl (lv_at hl 3 rfl) ?_
    refine lv_icmp_ge (tgt := 74) hx hb dX6_pass_51 (by decide) (fun c_51 => ?_) (fun c_51 => ?_)
    · refine lv_iload hx hb dX6_pass_74 (lv_at hl 1 rfl) ?_
      refine W.widen (k := 88) (n := 656) (by omega) (by omega) ?_
      exact W.iret (v := (mp_days ρ P F x z n).1) hx hb hr (fun t ht hW9 => ⟨⟨(mp_days ρ P F x z n).1, (0, (mp_days ρ P F x z n).2), rfl, (by subst hnN; exact ⟨rfl, rfl, rfl⟩), by show mm_W D d cB L m0 _ _ A t.heap; rw [ht]; exact hM⟩, hS.F ht⟩) hS.2.2 dX6_pass_76
    · exact absurd (by rw [hnN]; exact nI_le (a := N) (b := N) (Nat.le_refl _) (by omega)) c_51
  | succ kk ih =>
    intro n hn hAz H locs hM hS ls hl
    have hnN : n < N := by omega
    have hW := hM.2.1
    have h8 := hok.2.1
    have hp1 := mp_pot_le ρ F
    have hp2 := mp_days_pot hok x z n
    have hp3 := mp_go_pot (hok.days x z n) x z
    have hp4 : mp_pot (mp_days ρ P F x z (n + 1)).2 F = mp_pot (mp_go (mp_days ρ P F x z n).2 P F x z).2 F := rfl
    refine lv_iload hx hb dX6_pass_48 (lv_at hl 0 rfl) ?_
    refine lv_iload_n hx hb dX6_pass_50 rfl (lv_at hl 3 rfl) ?_
    refine lv_icmp_ge (tgt := 74) hx hb dX6_pass_51 (by decide) (fun c_51 => ?_) (fun c_51 => ?_)
    · exact absurd c_51 (nI_ge (b := N) hnN (by omega))
    · refine lv_iload hx hb dX6_pass_54 (lv_at hl 1 rfl) ?_
      refine lv_aload_n hx hb dX6_pass_56 rfl (lv_at hl 2 rfl) ?_
      refine mm_house hx hb hts (by decide +kernel) hown hKK.1 hM (hts (.fieldLink RX6 10 "WaxrowModel" "house" "LWaxrowModel$House;") (by decide +kernel)) dX6_pass_57 ?_
      have hW := hM.2.1
      refine lv_iload_n hx hb dX6_pass_60 rfl (lv_at hl 4 rfl) ?_
      refine lv_iload_n hx hb dX6_pass_61 rfl (lv_at hl 5 rfl) ?_
      refine mh_calln (As := [.int x, .int z]) ⟨hx, hb, hml, hown, hts⟩ (kX5_go l D d cB L (mh_ownN L H.size) H.size (mh_ownN_A L H.size) P F R (mp_days ρ P F x z n).2 (hok.days x z n) x z) (cwV 2 hts gX6_pass_X5_go rfl rfl rfl (by decide +kernel) ⟨Nat.le_of_ble_eq_true rfl, Nat.le_of_ble_eq_true rfl⟩) hKK hAz hW hS rfl hl.1 (Nat.le_of_ble_eq_true rfl) dX6_pass_62 ⟨by show (n + (mp_pot ρ F - mp_pot (mp_days ρ P F x z n).2 F)) + (1 + mp_wadvs (mp_dawn (mp_days ρ P F x z n).2 P) F) ≤ 88; omega, by show (8 * n + 7 * (mp_pot ρ F - mp_pot (mp_days ρ P F x z n).2 F)) + (8 + 7 * mp_wadvs (mp_dawn (mp_days ρ P F x z n).2 P) F) ≤ 656; omega⟩ rfl (fun r_ τ_ H locs hp hW hz hqq hS => ?_)
      have er_ : (mp_go (mp_days ρ P F x z n).2 P F x z).1 = r_ := by rw [hp]
      have et_ : (mp_go (mp_days ρ P F x z n).2 P F x z).2 = τ_ := by rw [hp]
      subst er_ et_
      have hM : mm_W D d cB L m0 0 (mp_go (mp_days ρ P F x z n).2 P F x z).2 A H := ⟨hM.1.kept (hqq _ hM.1.lt (fun ⟨k9, i9, hx9, e9⟩ => hM.2.2.2 k9 i9 hx9 e9.symm)), hW, hM.2.2⟩
      have hM : mm_W D d cB L m0 0 ((mp_go (mp_days ρ P F x z n).2 P F x z).2) A H := hM
      have hW := hM.2.1
      refine lv_iadd hx hb dX6_pass_65 ?_
      refine lv_istore (lv' := [(4, .int (((mp_days ρ P F x z n).1) + ((mp_go (mp_days ρ P F x z n).2 P F x z).1))), (5, .int (nI n)), (0, .ref m0), (1, .int (nI N)), (2, .int x), (3, .int z)]) hx hb dX6_pass_66 hl (by decide) rfl (fun ls hl => ?_)
      refine lv_iinc (v := nI (n + 1)) (lv' := [(5, .int (nI (n + 1))), (4, .int (((mp_days ρ P F x z n).1) + ((mp_go (mp_days ρ P F x z n).2 P F x z).1))), (0, .ref m0), (1, .int (nI N)), (2, .int x), (3, .int z)]) hx hb dX6_pass_68 hl (k := 1) rfl (nI_succ _).symm (by decide) rfl (fun ls hl => ?_)
      refine lv_goto (tgt := 48) hx hb dX6_pass_71 (by decide) ?_
      refine W.widen (k := ((n + 1) + (mp_pot ρ F - mp_pot (mp_days ρ P F x z (n + 1)).2 F))) (n := (8 * (n + 1) + 7 * (mp_pot ρ F - mp_pot (mp_days ρ P F x z (n + 1)).2 F))) (by omega) (by omega) ?_
      exact ih (n + 1) (by omega) hAz _ _ hM hS ls (lv_sub hl [0, 1, 2, 3, 4, 5] rfl)
set_option maxHeartbeats 4000000 in
set_option maxRecDepth 100000 in
/-- the reference: X6_pass -/
theorem kX6_pass (l : Launch) (D : va_G) (d : hs_Dm) (cB : ClassId) (L : hs_Lo) (m0 : Nat) (th : Int32) (ρ : hs_St) (A : Nat → Prop) (sz : Nat) (P F R : Nat) (hok : mh_ok P F R ρ) (n x z : Int32) (hA : mh_A A sz) : mm_Mi l yX6_pass wsX6_pass ({ frames := 6, cells := 88, slots := 656, locals := 200 } : Room) D d cB L m0 th ρ A sz [.ref m0, .int n, .int x, .int z] (fun r X => mp_passP P F ρ n x z r X) 88 656 := by
  refine Met.ofW (cc := cX6_pass) (maxL := 6) (ret := (some .int)) (by decide) rfl ?_
  intro p e s m args below meth c0 s₁ B hml hv
  obtain ⟨rfl, hsz, hM, hKK⟩ := hv
  have hx := B.exec
  have hb := B.bytes
  have hr := B.returns
  have hts := atoms_spec (ws := wsX6_pass) B.pre
  have hown : s.vm.findClass RX6 = some m.cls := findClass_of_methodNamed B.named
  have hlocks := B.notSynchronized
  have hS : va_S A s.heap s.heap [] := va_S.rf
  have hl := lv_entry ([.ref m0, .int n, .int x, .int z]) (n := 6) (Nat.le_of_ble_eq_true rfl)
  rw [lg_entry_eq]
  generalize (lg_sl ([.ref m0, .int n, .int x, .int z]) ++ List.replicate (6 - (lg_sl ([.ref m0, .int n, .int x, .int z])).length) Slot.unset).toArray = ls at hl ⊢
  have hl : lv_has ls 6 [(0, .ref m0), (1, .int n), (2, .int x), (3, .int z)] := hl
  have hAz : ∀ q, s.heap.size ≤ q → A q := fun q h9 => hA q (by rw [hsz] at h9; exact h9)
  refine lv_aload_n hx hb dX6_pass_0 rfl (lv_at hl 0 rfl) ?_
  refine lv_iconst (v := 0) hx hb dX6_pass_1 (by decide) ?_
  refine mm_putt hx hb hts (by decide +kernel) hown hKK.1 hM hS (hts (.fieldLink RX6 16 "WaxrowModel" "thrown" "I") (by decide +kernel)) (0 : Int32) dX6_pass_2 (fun H locs hM hS hz => ?_)
  have hM : mm_W D d cB L m0 0 ρ A H := hM
  have hW := hM.2.1
  refine lv_iload_n hx hb dX6_pass_5 rfl (lv_at hl 1 rfl) ?_
  refine lv_iconst (v := 1) hx hb dX6_pass_6 (by decide) ?_
  refine lv_bipush (v := 40) hx hb dX6_pass_7 (by decide) ?_
  refine mm_pure (As := [.int n, .int 1, .int 40]) ⟨hx, hb, hml, hown, hts⟩ (kX6_in l (n) (1) (40)) (va_cwS 3 hts gX6_pass_X6_in rfl rfl rfl (by decide +kernel) ⟨Nat.le_of_ble_eq_true rfl, Nat.le_of_ble_eq_true rfl⟩) hM hS rfl hl.1 (Nat.le_of_ble_eq_true rfl) dX6_pass_9 ⟨Nat.le_of_ble_eq_true rfl, Nat.le_of_ble_eq_true rfl⟩ rfl (fun r_ H locs hp hM hz hS => ?_)
  subst hp
  have hM : mm_W D d cB L m0 0 ρ A H := hM
  have hW := hM.2.1
  refine lv_if_eq (tgt := 36) hx hb dX6_pass_12 (by decide) (fun c_12 => ?_) (fun c_12 => ?_)
  · refine lv_aload_n hx hb dX6_pass_36 rfl (lv_at hl 0 rfl) ?_
    refine lv_iconst (v := 1) hx hb dX6_pass_37 (by decide) ?_
    refine mm_calli (As := [.int 1]) ⟨hx, hb, hml, hown, hts⟩ (kX6_no l D d cB L m0 (0 : Int32) ρ A H.size 1) (cwV 1 hts gX6_pass_X6_no rfl rfl rfl (by decide +kernel) ⟨Nat.le_of_ble_eq_true rfl, Nat.le_of_ble_eq_true rfl⟩) hKK hM hS rfl hl.1 (Nat.le_of_ble_eq_true rfl) dX6_pass_38 ⟨Nat.le_of_ble_eq_true rfl, Nat.le_of_ble_eq_true rfl⟩ rfl (fun r_ X_ H locs hp hM hz hS => ?_)
    obtain ⟨t_, τ_⟩ := X_
    obtain ⟨e1_, e2_, e3_⟩ := hp
    have e2_ : (1 : Int32) = t_ := e2_
    have e3_ : ρ = τ_ := e3_
    subst e1_ e2_ e3_
    have hM : mm_W D d cB L m0 1 ρ A H := hM
    have hW := hM.2.1
    refine W.widen (k := 88) (n := 656) (by omega) (by omega) ?_
    exact W.iret (v := 0) hx hb hr (fun t ht hW9 => ⟨⟨0, (1, ρ), rfl, (by show mp_passP P F ρ n x z _ _; unfold mp_passP; rw [if_pos c_12]; exact ⟨rfl, rfl, rfl⟩), by show mm_W D d cB L m0 _ _ A t.heap; rw [ht]; exact hM⟩, hS.F ht⟩) hS.2.2 dX6_pass_41
  · refine lv_iload_n hx hb dX6_pass_15 rfl (lv_at hl 2 rfl) ?_
    refine lv_iconst (v := 0) hx hb dX6_pass_16 (by decide) ?_
    refine lv_sipush (v := 2000) hx hb dX6_pass_17 (by decide) ?_
    refine mm_pure (As := [.int x, .int 0, .int 2000]) ⟨hx, hb, hml, hown, hts⟩ (kX6_in l (x) (0) (2000)) (va_cwS 3 hts gX6_pass_X6_in rfl rfl rfl (by decide +kernel) ⟨Nat.le_of_ble_eq_true rfl, Nat.le_of_ble_eq_true rfl⟩) hM hS rfl hl.1 (Nat.le_of_ble_eq_true rfl) dX6_pass_20 ⟨Nat.le_of_ble_eq_true rfl, Nat.le_of_ble_eq_true rfl⟩ rfl (fun r_ H locs hp hM hz hS => ?_)
    subst hp
    have hM : mm_W D d cB L m0 0 ρ A H := hM
    have hW := hM.2.1
    refine lv_if_eq (tgt := 36) hx hb dX6_pass_23 (by decide) (fun c_23 => ?_) (fun c_23 => ?_)
    · refine lv_aload_n hx hb dX6_pass_36 rfl (lv_at hl 0 rfl) ?_
      refine lv_iconst (v := 1) hx hb dX6_pass_37 (by decide) ?_
      refine mm_calli (As := [.int 1]) ⟨hx, hb, hml, hown, hts⟩ (kX6_no l D d cB L m0 (0 : Int32) ρ A H.size 1) (cwV 1 hts gX6_pass_X6_no rfl rfl rfl (by decide +kernel) ⟨Nat.le_of_ble_eq_true rfl, Nat.le_of_ble_eq_true rfl⟩) hKK hM hS rfl hl.1 (Nat.le_of_ble_eq_true rfl) dX6_pass_38 ⟨Nat.le_of_ble_eq_true rfl, Nat.le_of_ble_eq_true rfl⟩ rfl (fun r_ X_ H locs hp hM hz hS => ?_)
      obtain ⟨t_, τ_⟩ := X_
      obtain ⟨e1_, e2_, e3_⟩ := hp
      have e2_ : (1 : Int32) = t_ := e2_
      have e3_ : ρ = τ_ := e3_
      subst e1_ e2_ e3_
      have hM : mm_W D d cB L m0 1 ρ A H := hM
      have hW := hM.2.1
      refine W.widen (k := 88) (n := 656) (by omega) (by omega) ?_
      exact W.iret (v := 0) hx hb hr (fun t ht hW9 => ⟨⟨0, (1, ρ), rfl, (by show mp_passP P F ρ n x z _ _; unfold mp_passP; rw [if_neg c_12, if_pos c_23]; exact ⟨rfl, rfl, rfl⟩), by show mm_W D d cB L m0 _ _ A t.heap; rw [ht]; exact hM⟩, hS.F ht⟩) hS.2.2 dX6_pass_41
    · refine lv_iload_n hx hb dX6_pass_26 rfl (lv_at hl 3 rfl) ?_
      refine lv_iconst (v := 0) hx hb dX6_pass_27 (by decide) ?_
      refine lv_bipush (v := 40) hx hb dX6_pass_28 (by decide) ?_
      refine mm_pure (As := [.int z, .int 0, .int 40]) ⟨hx, hb, hml, hown, hts⟩ (kX6_in l (z) (0) (40)) (va_cwS 3 hts gX6_pass_X6_in rfl rfl rfl (by decide +kernel) ⟨Nat.le_of_ble_eq_true rfl, Nat.le_of_ble_eq_true rfl⟩) hM hS rfl hl.1 (Nat.le_of_ble_eq_true rfl) dX6_pass_30 ⟨Nat.le_of_ble_eq_true rfl, Nat.le_of_ble_eq_true rfl⟩ rfl (fun r_ H locs hp hM hz hS => ?_)
      subst hp
      have hM : mm_W D d cB L m0 0 ρ A H := hM
      have hW := hM.2.1
      refine lv_if_ne (tgt := 42) hx hb dX6_pass_33 (by decide) (fun c_33 => ?_) (fun c_33 => ?_)
      · obtain ⟨N, hN1, hN, eN⟩ := mp_in_1 (n := 40) (by decide) c_12
        subst eN
        have hclN := nI_clamp (n := N) (by omega)
        refine lv_iconst (v := 0) hx hb dX6_pass_42 (by decide) ?_
        refine lv_istore (lv' := [(4, .int 0), (0, .ref m0), (1, .int (nI N)), (2, .int x), (3, .int z)]) hx hb dX6_pass_43 hl (by decide) rfl (fun ls hl => ?_)
        refine lv_iconst (v := 0) hx hb dX6_pass_45 (by decide) ?_
        refine lv_istore (lv' := [(5, .int 0), (4, .int 0), (0, .ref m0), (1, .int (nI N)), (2, .int x), (3, .int z)]) hx hb dX6_pass_46 hl (by decide) rfl (fun ls hl => ?_)
        refine MQ_post ?_ (fun r X (h : (mp_days ρ P F x z N).1 = r ∧ (0 : Int32) = X.1 ∧ (mp_days ρ P F x z N).2 = X.2) => show mp_passP P F ρ (nI N) x z r X by unfold mp_passP; rw [if_neg c_12, if_neg c_23, if_neg c_33, hclN]; exact h)
        refine W.widen (k := (0 + (mp_pot ρ F - mp_pot (mp_days ρ P F x z 0).2 F))) (n := (8 * 0 + 7 * (mp_pot ρ F - mp_pot (mp_days ρ P F x z 0).2 F))) (by omega) (by omega) ?_
        exact lkX6_pass l D d cB L m0 0 ρ A sz P F R hok N hN x z hx hb hr hts hown hlocks hml hKK N 0 (by omega) hAz _ _ hM hS ls (lv_sub hl [0, 1, 2, 3, 4, 5] rfl)
      · refine lv_aload_n hx hb dX6_pass_36 rfl (lv_at hl 0 rfl) ?_
        refine lv_iconst (v := 1) hx hb dX6_pass_37 (by decide) ?_
        refine mm_calli (As := [.int 1]) ⟨hx, hb, hml, hown, hts⟩ (kX6_no l D d cB L m0 (0 : Int32) ρ A H.size 1) (cwV 1 hts gX6_pass_X6_no rfl rfl rfl (by decide +kernel) ⟨Nat.le_of_ble_eq_true rfl, Nat.le_of_ble_eq_true rfl⟩) hKK hM hS rfl hl.1 (Nat.le_of_ble_eq_true rfl) dX6_pass_38 ⟨Nat.le_of_ble_eq_true rfl, Nat.le_of_ble_eq_true rfl⟩ rfl (fun r_ X_ H locs hp hM hz hS => ?_)
        obtain ⟨t_, τ_⟩ := X_
        obtain ⟨e1_, e2_, e3_⟩ := hp
        have e2_ : (1 : Int32) = t_ := e2_
        have e3_ : ρ = τ_ := e3_
        subst e1_ e2_ e3_
        have hM : mm_W D d cB L m0 1 ρ A H := hM
        have hW := hM.2.1
        refine W.widen (k := 88) (n := 656) (by omega) (by omega) ?_
        exact W.iret (v := 0) hx hb hr (fun t ht hW9 => ⟨⟨0, (1, ρ), rfl, (by show mp_passP P F ρ n x z _ _; unfold mp_passP; rw [if_neg c_12, if_neg c_23, if_pos c_33]; exact ⟨rfl, rfl, rfl⟩), by show mm_W D d cB L m0 _ _ A t.heap; rw [ht]; exact hM⟩, hS.F ht⟩) hS.2.2 dX6_pass_41
