/-! THE REFERENCE'S news, clean, consent, measure -/
section MPQ
variable {p : Program} {l : Launch} {e : Env} {R : Room} {s : State} {m : MethodId} {args : Array Value} {below : List Frame} {meth : Method} {c0 : Code} {H : Heap} {locs : List Loc} {cells slots mc ms : Nat} {g : JFrame} {A free : Nat → Prop}
theorem W.mapQ {Q Q2 : State → Prop} (k : W p l e R s m args below meth c0 H locs cells slots Q g) (h : ∀ t, Q t → Q2 t) : W p l e R s m args below meth c0 H locs cells slots Q2 g := by
  intro T hT X
  obtain ⟨t, a, b⟩ := k T hT X
  exact ⟨t, a, h t b⟩
theorem MQ_post {S : Type} {B : S → State → Prop} {post post2 : Int32 → S → Prop} (k : W p l e R s m args below meth c0 H locs cells slots (MQ below (va_Qi post B A) args s mc ms free) g) (h : ∀ r X, post r X → post2 r X) : W p l e R s m args below meth c0 H locs cells slots (MQ below (va_Qi post2 B A) args s mc ms free) g := W.mapQ k (fun t ⟨o, a, b, c, f⟩ => ⟨o, a, b, ⟨by obtain ⟨r, u, h1, h2, h3⟩ := c.1; exact ⟨r, u, h1, h r u h2, h3⟩, c.2⟩, f⟩)
end MPQ
def mp_news (ρ : hs_St) (q : Nat) (y : Int32) : Nat → hs_St
  | 0 => ρ
  | n + 1 => hs_sg (mp_news ρ q y n) 11 q n (mp_held (mp_news ρ q y n 11 q n + y) 999)
def mp_newsP (P : Nat) (ρ : hs_St) (x y : Int32) (r : Int32) (X : mm_X) : Prop := if mp_in x 0 (nI P - 1) = 0 then ((0 : Int32) = r ∧ (1 : Int32) = X.1 ∧ ρ = X.2) else if mp_in y (-500) 500 = 0 then ((0 : Int32) = r ∧ (2 : Int32) = X.1 ∧ ρ = X.2) else (mp_news ρ x.toNatClampNeg y 3 11 x.toNatClampNeg 0 = r ∧ (0 : Int32) = X.1 ∧ mp_news ρ x.toNatClampNeg y 3 = X.2)
set_option maxHeartbeats 4000000 in
set_option maxRecDepth 100000 in
/-- the reference: X6_news: the loop at 40 -/
theorem lkX6_news (l : Launch) (D : va_G) (d : hs_Dm) (cB : ClassId) (L : hs_Lo) (m0 : Nat) (th : Int32) (ρ : hs_St) (A : Nat → Prop) (sz : Nat) (P F R : Nat) (hok : mh_ok P F R ρ) (j : Nat) (hj : j < P) (y : Int32) {p : Program} {e : Env} {s : State} {m : MethodId} {args : Array Value} {below : List Frame} {meth : Method} {c0 : Code} (hx : p.tables.exec = Jvm.exec) (hb : c0.code = cX6_news) (hr : meth.sig.returnType = (some .int)) (hts : ∀ w ∈ wsX6_news, w.before args s = true) (hown : s.vm.findClass RX6 = some m.cls) (hlocks : meth.locks = false) (hml : c0.maxLocals = 4) (hKK : mh_K D d cB s) : ∀ (kk n : Nat), n + kk = 3 → ∀ (H : Heap) (locs : List Loc), mm_W D d cB L m0 0 (mp_news ρ j y n) A H → va_S A s.heap H locs → ∀ ls : Array Slot, lv_has ls 4 [(3, .int (nI n)), (0, .ref m0), (1, .int (nI j)), (2, .int y)] → W p l e (({ frames := 2, cells := 0, slots := 0, locals := 80 } : Room)) s m args below meth c0 H locs 0 0 (MQ below (va_Qi (fun r X => mp_news ρ j y 3 11 j 0 = r ∧ (0 : Int32) = X.1 ∧ mp_news ρ j y 3 = X.2) (fun (X : mm_X) t => mm_W D d cB L m0 X.1 X.2 A t.heap) A) args s 0 0 A) (F0 m 40 ls []) := by
  intro kk
  induction kk with
  | zero =>
    intro n hn H locs hM hS ls hl
    have hnN : n = 3 := by omega
    have hW := hM.2.1
    have h10 := hok.1
    refine lv_iload_n hx hb dX6_news_40 rfl (lv_at hl 0 rfl) ?_
    refine lv_iconst (v := 3) hx hb dX6_news_41 (by decide) ?_
    refine lv_icmp_ge (tgt := 81) hx hb dX6_news_42 (by decide) (fun c_42 => ?_) (fun c_42 => ?_)
    · refine lv_aload_n hx hb dX6_news_81 rfl (lv_at hl 1 rfl) ?_
      refine mm_house hx hb hts (by decide +kernel) hown hKK.1 hM (hts (.fieldLink RX6 10 "WaxrowModel" "house" "LWaxrowModel$House;") (by decide +kernel)) dX6_news_82 ?_
      have hW := hM.2.1
      refine mh_get hx hb hts (by decide +kernel) hown hKK.1 hW 0 (by decide) (hts (.fieldLink RX6 46 "WaxrowModel$House" "persons" "[[I") (by decide +kernel)) rfl (v := .ref (L 1 0)) rfl dX6_news_85 ?_
      refine lv_iload_n hx hb dX6_news_88 rfl (lv_at hl 2 rfl) ?_
      refine mh_aald hx hb hKK.2.1 hW 1 j (by decide) (by decide) (by have := hok.1; show j < mh_n 1; unfold mh_n; simp; omega) dX6_news_89 ?_
      refine lv_iconst (v := 0) hx hb dX6_news_90 (by decide) ?_
      refine mh_iald hx hb hKK.1 hW 11 j (by decide) (mh_ixR (k := 1) (by decide) (by decide) (by have := hok.1; show j < mh_n 1; unfold mh_n; simp; omega)) (i := 0) (by unfold vp_in; decide) dX6_news_91 ?_
      rw [show (0 : Int32).toNatClampNeg = 0 from by decide]
      exact W.iret (v := (mp_news ρ j y n) 11 j 0) hx hb hr (fun t ht hW9 => ⟨⟨(mp_news ρ j y n) 11 j 0, (0, mp_news ρ j y n), rfl, (by subst hnN; exact ⟨rfl, rfl, rfl⟩), by show mm_W D d cB L m0 _ _ A t.heap; rw [ht]; exact hM⟩, hS.F ht⟩) hS.2.2 dX6_news_92
    · exact absurd (by rw [hnN]; exact nI_le (a := 3) (b := 3) (Nat.le_refl _) (by decide)) c_42
  | succ kk ih =>
    intro n hn H locs hM hS ls hl
    have hnN : n < 3 := by omega
    have hW := hM.2.1
    have h10 := hok.1
    refine lv_iload_n hx hb dX6_news_40 rfl (lv_at hl 0 rfl) ?_
    refine lv_iconst (v := 3) hx hb dX6_news_41 (by decide) ?_
    refine lv_icmp_ge (tgt := 81) hx hb dX6_news_42 (by decide) (fun c_42 => ?_) (fun c_42 => ?_)
    · exact absurd c_42 (nI_ge (b := 3) hnN (by decide))
    · refine lv_aload_n hx hb dX6_news_45 rfl (lv_at hl 1 rfl) ?_
      refine mm_house hx hb hts (by decide +kernel) hown hKK.1 hM (hts (.fieldLink RX6 10 "WaxrowModel" "house" "LWaxrowModel$House;") (by decide +kernel)) dX6_news_46 ?_
      have hW := hM.2.1
      refine mh_get hx hb hts (by decide +kernel) hown hKK.1 hW 0 (by decide) (hts (.fieldLink RX6 46 "WaxrowModel$House" "persons" "[[I") (by decide +kernel)) rfl (v := .ref (L 1 0)) rfl dX6_news_49 ?_
      refine lv_iload_n hx hb dX6_news_52 rfl (lv_at hl 2 rfl) ?_
      refine mh_aald hx hb hKK.2.1 hW 1 j (by decide) (by decide) (by have := hok.1; show j < mh_n 1; unfold mh_n; simp; omega) dX6_news_53 ?_
      refine lv_iload_n hx hb dX6_news_54 rfl (lv_at hl 0 rfl) ?_
      refine lv_aload_n hx hb dX6_news_55 rfl (lv_at hl 1 rfl) ?_
      refine mm_house hx hb hts (by decide +kernel) hown hKK.1 hM (hts (.fieldLink RX6 10 "WaxrowModel" "house" "LWaxrowModel$House;") (by decide +kernel)) dX6_news_56 ?_
      have hW := hM.2.1
      refine mh_get hx hb hts (by decide +kernel) hown hKK.1 hW 0 (by decide) (hts (.fieldLink RX6 46 "WaxrowModel$House" "persons" "[[I") (by decide +kernel)) rfl (v := .ref (L 1 0)) rfl dX6_news_59 ?_
      refine lv_iload_n hx hb dX6_news_62 rfl (lv_at hl 2 rfl) ?_
      refine mh_aald hx hb hKK.2.1 hW 1 j (by decide) (by decide) (by have := hok.1; show j < mh_n 1; unfold mh_n; simp; omega) dX6_news_63 ?_
      refine lv_iload_n hx hb dX6_news_64 rfl (lv_at hl 0 rfl) ?_
      refine mh_iald hx hb hKK.1 hW 11 j (by decide) (mh_ixR (k := 1) (by decide) (by decide) (by have := hok.1; show j < mh_n 1; unfold mh_n; simp; omega)) (i := nI n) (by unfold vp_in; exact nI_in (show n < 9 by omega) (by decide)) dX6_news_65 ?_
      rw [show (nI n : Int32).toNatClampNeg = n from nI_clamp (by omega)]
      refine lv_iload_n hx hb dX6_news_66 rfl (lv_at hl 3 rfl) ?_
      refine lv_iadd hx hb dX6_news_67 ?_
      refine lv_sipush (v := 999) hx hb dX6_news_68 (by decide) ?_
      refine mm_pure (As := [.int (((mp_news ρ j y n) 11 j n) + y), .int 999]) ⟨hx, hb, hml, hown, hts⟩ (kX6_held l (((mp_news ρ j y n) 11 j n) + y) (999)) (va_cwS 2 hts gX6_news_X6_held rfl rfl rfl (by decide +kernel) ⟨Nat.le_of_ble_eq_true rfl, Nat.le_of_ble_eq_true rfl⟩) hM hS rfl hl.1 (Nat.le_of_ble_eq_true rfl) dX6_news_71 ⟨Nat.le_of_ble_eq_true rfl, Nat.le_of_ble_eq_true rfl⟩ rfl (fun r_ H locs hp hM hz hS => ?_)
      subst hp
      have hM : mm_W D d cB L m0 0 (mp_news ρ j y n) A H := hM
      have hW := hM.2.1
      have hW := hM.2.1
      refine mh_iast hx hb hKK.1 hW hS 11 j (by decide) (mh_ixR (k := 1) (by decide) (by decide) (by have := hok.1; show j < mh_n 1; unfold mh_n; simp; omega)) (i := nI n) (x := mp_held (((mp_news ρ j y n) 11 j n) + y) (999 : Int32)) (by unfold vp_in; exact nI_in (show n < 9 by omega) (by decide)) dX6_news_74 (fun H locs hW hS hz hq => ?_)
      rw [show (nI n : Int32).toNatClampNeg = n from nI_clamp (by omega)] at hW
      have hW : mh_W D d.1 cB L (hs_sg (mp_news ρ j y n) 11 j n (mp_held (((mp_news ρ j y n) 11 j n) + y) (999 : Int32))) A H := hW
      have hM : mm_W D d cB L m0 0 (hs_sg (mp_news ρ j y n) 11 j n (mp_held (((mp_news ρ j y n) 11 j n) + y) (999 : Int32))) A H := ⟨hM.1.kept (hq _ (fun z => hM.2.2.2 11 j (mh_ixR (k := 1) (by decide) (by decide) (by have := hok.1; show j < mh_n 1; unfold mh_n; simp; omega)) z.symm)), hW, hM.2.2⟩
      refine lv_iinc (v := nI (n + 1)) (lv' := [(3, .int (nI (n + 1))), (0, .ref m0), (1, .int (nI j)), (2, .int y)]) hx hb dX6_news_75 hl (k := 0) rfl (nI_succ _).symm (by decide) rfl (fun ls hl => ?_)
      refine lv_goto (tgt := 40) hx hb dX6_news_78 (by decide) ?_
      have hM : mm_W D d cB L m0 0 (mp_news ρ j y (n + 1)) A H := hM
      exact ih (n + 1) (by omega) _ _ hM hS ls (lv_sub hl [0, 1, 2, 3] rfl)
set_option maxHeartbeats 4000000 in
set_option maxRecDepth 100000 in
/-- the reference: X6_news -/
theorem kX6_news (l : Launch) (D : va_G) (d : hs_Dm) (cB : ClassId) (L : hs_Lo) (m0 : Nat) (th : Int32) (ρ : hs_St) (A : Nat → Prop) (sz : Nat) (P F R : Nat) (hok : mh_ok P F R ρ) (x y : Int32) : mm_Mi l yX6_news wsX6_news ({ frames := 2, cells := 0, slots := 0, locals := 80 } : Room) D d cB L m0 th ρ A sz [.ref m0, .int x, .int y] (fun r X => mp_newsP P ρ x y r X) 0 0 := by
  refine Met.ofW (cc := cX6_news) (maxL := 4) (ret := (some .int)) (by decide) rfl ?_
  intro p e s m args below meth c0 s₁ B hml hv
  obtain ⟨rfl, hsz, hM, hKK⟩ := hv
  have hx := B.exec
  have hb := B.bytes
  have hr := B.returns
  have hts := atoms_spec (ws := wsX6_news) B.pre
  have hown : s.vm.findClass RX6 = some m.cls := findClass_of_methodNamed B.named
  have hlocks := B.notSynchronized
  have hS : va_S A s.heap s.heap [] := va_S.rf
  have hl := lv_entry ([.ref m0, .int x, .int y]) (n := 4) (Nat.le_of_ble_eq_true rfl)
  rw [lg_entry_eq]
  generalize (lg_sl ([.ref m0, .int x, .int y]) ++ List.replicate (4 - (lg_sl ([.ref m0, .int x, .int y])).length) Slot.unset).toArray = ls at hl ⊢
  have hl : lv_has ls 4 [(0, .ref m0), (1, .int x), (2, .int y)] := hl
  refine lv_aload_n hx hb dX6_news_0 rfl (lv_at hl 0 rfl) ?_
  refine lv_iconst (v := 0) hx hb dX6_news_1 (by decide) ?_
  refine mm_putt hx hb hts (by decide +kernel) hown hKK.1 hM hS (hts (.fieldLink RX6 16 "WaxrowModel" "thrown" "I") (by decide +kernel)) (0 : Int32) dX6_news_2 (fun H locs hM hS hz => ?_)
  have hM : mm_W D d cB L m0 0 ρ A H := hM
  have hW := hM.2.1
  refine lv_aload_n hx hb dX6_news_5 rfl (lv_at hl 0 rfl) ?_
  refine lv_iload_n hx hb dX6_news_6 rfl (lv_at hl 1 rfl) ?_
  refine mm_calli (As := [.int x]) ⟨hx, hb, hml, hown, hts⟩ (kX6_isPerson l D d cB L m0 (0 : Int32) ρ A H.size P F R hok x) (cwV 1 hts gX6_news_X6_isPerson rfl rfl rfl (by decide +kernel) ⟨Nat.le_of_ble_eq_true rfl, Nat.le_of_ble_eq_true rfl⟩) hKK hM hS rfl hl.1 (Nat.le_of_ble_eq_true rfl) dX6_news_7 ⟨Nat.le_of_ble_eq_true rfl, Nat.le_of_ble_eq_true rfl⟩ rfl (fun r_ X_ H locs hp hM hz hS => ?_)
  obtain ⟨t_, τ_⟩ := X_
  obtain ⟨e1_, e2_, e3_⟩ := hp
  have e2_ : (0 : Int32) = t_ := e2_
  have e3_ : ρ = τ_ := e3_
  subst e1_ e2_ e3_
  have hM : mm_W D d cB L m0 0 ρ A H := hM
  have hW := hM.2.1
  refine lv_if_ne (tgt := 19) hx hb dX6_news_10 (by decide) (fun c_10 => ?_) (fun c_10 => ?_)
  · refine lv_iload_n hx hb dX6_news_19 rfl (lv_at hl 2 rfl) ?_
    refine lv_sipush (v := (-500)) hx hb dX6_news_20 (by decide) ?_
    refine lv_sipush (v := 500) hx hb dX6_news_23 (by decide) ?_
    refine mm_pure (As := [.int y, .int (-500), .int 500]) ⟨hx, hb, hml, hown, hts⟩ (kX6_in l (y) ((-500)) (500)) (va_cwS 3 hts gX6_news_X6_in rfl rfl rfl (by decide +kernel) ⟨Nat.le_of_ble_eq_true rfl, Nat.le_of_ble_eq_true rfl⟩) hM hS rfl hl.1 (Nat.le_of_ble_eq_true rfl) dX6_news_26 ⟨Nat.le_of_ble_eq_true rfl, Nat.le_of_ble_eq_true rfl⟩ rfl (fun r_ H locs hp hM hz hS => ?_)
    subst hp
    have hM : mm_W D d cB L m0 0 ρ A H := hM
    have hW := hM.2.1
    refine lv_if_ne (tgt := 38) hx hb dX6_news_29 (by decide) (fun c_29 => ?_) (fun c_29 => ?_)
    · have hb9 : P ≤ 10 := hok.1
      obtain ⟨j, hj9, ej9⟩ := mp_in_ix (by omega) c_10
      subst ej9
      have hj : j < P := hj9
      have hclj := nI_clamp (n := j) (by omega)
      refine lv_iconst (v := 0) hx hb dX6_news_38 (by decide) ?_
      refine lv_istore_n (lv' := [(3, .int 0), (0, .ref m0), (1, .int (nI j)), (2, .int y)]) hx hb dX6_news_39 rfl hl (by decide) rfl (fun ls hl => ?_)
      refine MQ_post (lkX6_news l D d cB L m0 0 ρ A sz P F R hok j hj y hx hb hr hts hown hlocks hml hKK 3 0 (by omega) _ _ hM hS ls (lv_sub hl [0, 1, 2, 3] rfl)) (fun r X h => ?_)
      exact (by show mp_newsP P ρ (nI j) y r X; unfold mp_newsP; rw [if_neg c_10, if_neg c_29, hclj]; exact h)
    · refine lv_aload_n hx hb dX6_news_32 rfl (lv_at hl 0 rfl) ?_
      refine lv_iconst (v := 2) hx hb dX6_news_33 (by decide) ?_
      refine mm_calli (As := [.int 2]) ⟨hx, hb, hml, hown, hts⟩ (kX6_no l D d cB L m0 (0 : Int32) ρ A H.size 2) (cwV 1 hts gX6_news_X6_no rfl rfl rfl (by decide +kernel) ⟨Nat.le_of_ble_eq_true rfl, Nat.le_of_ble_eq_true rfl⟩) hKK hM hS rfl hl.1 (Nat.le_of_ble_eq_true rfl) dX6_news_34 ⟨Nat.le_of_ble_eq_true rfl, Nat.le_of_ble_eq_true rfl⟩ rfl (fun r_ X_ H locs hp hM hz hS => ?_)
      obtain ⟨t_, τ_⟩ := X_
      obtain ⟨e1_, e2_, e3_⟩ := hp
      have e2_ : (2 : Int32) = t_ := e2_
      have e3_ : ρ = τ_ := e3_
      subst e1_ e2_ e3_
      have hM : mm_W D d cB L m0 2 ρ A H := hM
      have hW := hM.2.1
      exact W.iret (v := 0) hx hb hr (fun t ht hW9 => ⟨⟨0, (2, ρ), rfl, (by show mp_newsP P ρ x y _ _; unfold mp_newsP; rw [if_neg c_10, if_pos c_29]; exact ⟨rfl, rfl, rfl⟩), by show mm_W D d cB L m0 _ _ A t.heap; rw [ht]; exact hM⟩, hS.F ht⟩) hS.2.2 dX6_news_37
  · refine lv_aload_n hx hb dX6_news_13 rfl (lv_at hl 0 rfl) ?_
    refine lv_iconst (v := 1) hx hb dX6_news_14 (by decide) ?_
    refine mm_calli (As := [.int 1]) ⟨hx, hb, hml, hown, hts⟩ (kX6_no l D d cB L m0 (0 : Int32) ρ A H.size 1) (cwV 1 hts gX6_news_X6_no rfl rfl rfl (by decide +kernel) ⟨Nat.le_of_ble_eq_true rfl, Nat.le_of_ble_eq_true rfl⟩) hKK hM hS rfl hl.1 (Nat.le_of_ble_eq_true rfl) dX6_news_15 ⟨Nat.le_of_ble_eq_true rfl, Nat.le_of_ble_eq_true rfl⟩ rfl (fun r_ X_ H locs hp hM hz hS => ?_)
    obtain ⟨t_, τ_⟩ := X_
    obtain ⟨e1_, e2_, e3_⟩ := hp
    have e2_ : (1 : Int32) = t_ := e2_
    have e3_ : ρ = τ_ := e3_
    subst e1_ e2_ e3_
    have hM : mm_W D d cB L m0 1 ρ A H := hM
    have hW := hM.2.1
    exact W.iret (v := 0) hx hb hr (fun t ht hW9 => ⟨⟨0, (1, ρ), rfl, (by show mp_newsP P ρ x y _ _; unfold mp_newsP; rw [if_pos c_10]; exact ⟨rfl, rfl, rfl⟩), by show mm_W D d cB L m0 _ _ A t.heap; rw [ht]; exact hM⟩, hS.F ht⟩) hS.2.2 dX6_news_18
def mp_clean (ρ : hs_St) (x : Int32) : Nat → hs_St
  | 0 => ρ
  | n + 1 => if mp_clean ρ x n 14 n 7 = x then hs_sg (mp_clean ρ x n) 14 n 6 (mp_max 0 (mp_clean ρ x n 14 n 6 - 6)) else mp_clean ρ x n
theorem mh_ok.clean {P F R : Nat} {ρ : hs_St} (h : mh_ok P F R ρ) (x : Int32) : ∀ n, mh_ok P F R (mp_clean ρ x n)
  | 0 => h
  | n + 1 => by
    unfold mp_clean
    split
    · exact (mh_ok.clean h x n).of ⟨by rw [pc9, if_neg (by omega)], by rw [pc9, if_neg (by omega)], by rw [pc9, if_neg (by omega)]⟩ (fun f _ => ⟨by rw [pc9, if_neg (by omega)], by rw [pc9, if_neg (by omega)], by rw [pc9, if_neg (by omega)], Or.inl (by rw [pc9, if_neg (by omega)]), Or.inl (by rw [pc9, if_neg (by omega)])⟩)
    · exact mh_ok.clean h x n
def mp_cleanP (F R : Nat) (ρ : hs_St) (x : Int32) (r : Int32) (X : mm_X) : Prop := if mp_in x 0 (nI R - 1) = 0 then ((0 : Int32) = r ∧ (1 : Int32) = X.1 ∧ ρ = X.2) else (mp_clean (hs_sg ρ 0 0 12 (ρ 0 0 12 - 5)) x F 0 0 12 = r ∧ (0 : Int32) = X.1 ∧ mp_clean (hs_sg ρ 0 0 12 (ρ 0 0 12 - 5)) x F = X.2)
set_option maxHeartbeats 4000000 in
set_option maxRecDepth 100000 in
/-- the reference: X6_clean: the loop at 34 -/
theorem lkX6_clean (l : Launch) (D : va_G) (d : hs_Dm) (cB : ClassId) (L : hs_Lo) (m0 : Nat) (th : Int32) (ρ : hs_St) (A : Nat → Prop) (sz : Nat) (P F R : Nat) (hok : mh_ok P F R ρ) (x : Int32) {p : Program} {e : Env} {s : State} {m : MethodId} {args : Array Value} {below : List Frame} {meth : Method} {c0 : Code} (hx : p.tables.exec = Jvm.exec) (hb : c0.code = cX6_clean) (hr : meth.sig.returnType = (some .int)) (hts : ∀ w ∈ wsX6_clean, w.before args s = true) (hown : s.vm.findClass RX6 = some m.cls) (hlocks : meth.locks = false) (hml : c0.maxLocals = 3) (hKK : mh_K D d cB s) : ∀ (kk n : Nat), n + kk = F → ∀ (H : Heap) (locs : List Loc), mm_W D d cB L m0 0 (mp_clean ρ x n) A H → va_S A s.heap H locs → ∀ ls : Array Slot, lv_has ls 3 [(2, .int (nI n)), (0, .ref m0), (1, .int x)] → W p l e (({ frames := 2, cells := 0, slots := 0, locals := 80 } : Room)) s m args below meth c0 H locs 0 0 (MQ below (va_Qi (fun r X => mp_clean ρ x F 0 0 12 = r ∧ (0 : Int32) = X.1 ∧ mp_clean ρ x F = X.2) (fun (X : mm_X) t => mm_W D d cB L m0 X.1 X.2 A t.heap) A) args s 0 0 A) (F0 m 34 ls []) := by
  intro kk
  induction kk with
  | zero =>
    intro n hn H locs hM hS ls hl
    have hnN : n = F := by omega
    have hW := hM.2.1
    have hF8 := hok.2.1
    refine lv_iload_n hx hb dX6_clean_34 rfl (lv_at hl 0 rfl) ?_
    refine lv_aload_n hx hb dX6_clean_35 rfl (lv_at hl 1 rfl) ?_
    refine mm_house hx hb hts (by decide +kernel) hown hKK.1 hM (hts (.fieldLink RX6 10 "WaxrowModel" "house" "LWaxrowModel$House;") (by decide +kernel)) dX6_clean_36 ?_
    have hW := hM.2.1
    refine mh_get hx hb hts (by decide +kernel) hown hKK.1 hW 7 (by decide) (hts (.fieldLink RX6 36 "WaxrowModel$House" "figureCount" "I") (by decide +kernel)) rfl (v := .int ((mp_clean ρ x n) 0 0 7)) rfl dX6_clean_39 ?_
    rw [show (mp_clean ρ x n) 0 0 7 = nI F from (hok.clean x n).2.2.2.2.1]
    refine lv_icmp_ge (tgt := 98) hx hb dX6_clean_42 (by decide) (fun c_42 => ?_) (fun c_42 => ?_)
    · refine lv_aload_n hx hb dX6_clean_98 rfl (lv_at hl 1 rfl) ?_
      refine mm_house hx hb hts (by decide +kernel) hown hKK.1 hM (hts (.fieldLink RX6 10 "WaxrowModel" "house" "LWaxrowModel$House;") (by decide +kernel)) dX6_clean_99 ?_
      have hW := hM.2.1
      refine mh_get hx hb hts (by decide +kernel) hown hKK.1 hW 12 (by decide) (hts (.fieldLink RX6 70 "WaxrowModel$House" "money" "I") (by decide +kernel)) rfl (v := .int ((mp_clean ρ x n) 0 0 12)) rfl dX6_clean_102 ?_
      exact W.iret (v := (mp_clean ρ x n) 0 0 12) hx hb hr (fun t ht hW9 => ⟨⟨(mp_clean ρ x n) 0 0 12, (0, mp_clean ρ x n), rfl, (by subst hnN; exact ⟨rfl, rfl, rfl⟩), by show mm_W D d cB L m0 _ _ A t.heap; rw [ht]; exact hM⟩, hS.F ht⟩) hS.2.2 dX6_clean_105
    · exact absurd (by rw [hnN]; exact nI_le (a := F) (b := F) (Nat.le_refl _) (by omega)) c_42
  | succ kk ih =>
    intro n hn H locs hM hS ls hl
    have hnN : n < F := by omega
    have hW := hM.2.1
    have hF8 := hok.2.1
    refine lv_iload_n hx hb dX6_clean_34 rfl (lv_at hl 0 rfl) ?_
    refine lv_aload_n hx hb dX6_clean_35 rfl (lv_at hl 1 rfl) ?_
    refine mm_house hx hb hts (by decide +kernel) hown hKK.1 hM (hts (.fieldLink RX6 10 "WaxrowModel" "house" "LWaxrowModel$House;") (by decide +kernel)) dX6_clean_36 ?_
    have hW := hM.2.1
    refine mh_get hx hb hts (by decide +kernel) hown hKK.1 hW 7 (by decide) (hts (.fieldLink RX6 36 "WaxrowModel$House" "figureCount" "I") (by decide +kernel)) rfl (v := .int ((mp_clean ρ x n) 0 0 7)) rfl dX6_clean_39 ?_
    rw [show (mp_clean ρ x n) 0 0 7 = nI F from (hok.clean x n).2.2.2.2.1]
    refine lv_icmp_ge (tgt := 98) hx hb dX6_clean_42 (by decide) (fun c_42 => ?_) (fun c_42 => ?_)
    · exact absurd c_42 (nI_ge (b := F) hnN (by omega))
    · refine lv_aload_n hx hb dX6_clean_45 rfl (lv_at hl 1 rfl) ?_
      refine mm_house hx hb hts (by decide +kernel) hown hKK.1 hM (hts (.fieldLink RX6 10 "WaxrowModel" "house" "LWaxrowModel$House;") (by decide +kernel)) dX6_clean_46 ?_
      have hW := hM.2.1
      refine mh_get hx hb hts (by decide +kernel) hown hKK.1 hW 3 (by decide) (hts (.fieldLink RX6 60 "WaxrowModel$House" "figures" "[[I") (by decide +kernel)) rfl (v := .ref (L 4 0)) rfl dX6_clean_49 ?_
      refine lv_iload_n hx hb dX6_clean_52 rfl (lv_at hl 0 rfl) ?_
      refine mh_aald hx hb hKK.2.1 hW 4 n (by decide) (by decide) (by show n < mh_n 4; unfold mh_n; simp; omega) dX6_clean_53 ?_
      refine lv_bipush (v := 7) hx hb dX6_clean_54 (by decide) ?_
      refine mh_iald hx hb hKK.1 hW 14 n (by decide) (mh_ixR (k := 4) (by decide) (by decide) (by show n < mh_n 4; unfold mh_n; simp; omega)) (i := 7) (by unfold vp_in; decide) dX6_clean_56 ?_
      rw [show (7 : Int32).toNatClampNeg = 7 from by decide]
      refine lv_iload_n hx hb dX6_clean_57 rfl (lv_at hl 2 rfl) ?_
      refine lv_icmp_ne (tgt := 92) hx hb dX6_clean_58 (by decide) (fun c_58 => ?_) (fun c_58 => ?_)
      · refine lv_iinc (v := nI (n + 1)) (lv' := [(2, .int (nI (n + 1))), (0, .ref m0), (1, .int x)]) hx hb dX6_clean_92 hl (k := 0) rfl (nI_succ _).symm (by decide) rfl (fun ls hl => ?_)
        refine lv_goto (tgt := 34) hx hb dX6_clean_95 (by decide) ?_
        have hM : mm_W D d cB L m0 0 (mp_clean ρ x (n + 1)) A H := by rw [show mp_clean ρ x (n + 1) = _ from if_neg c_58]; exact hM
        exact ih (n + 1) (by omega) _ _ hM hS ls (lv_sub hl [0, 1, 2] rfl)
      · refine lv_aload_n hx hb dX6_clean_61 rfl (lv_at hl 1 rfl) ?_
        refine mm_house hx hb hts (by decide +kernel) hown hKK.1 hM (hts (.fieldLink RX6 10 "WaxrowModel" "house" "LWaxrowModel$House;") (by decide +kernel)) dX6_clean_62 ?_
        have hW := hM.2.1
        refine mh_get hx hb hts (by decide +kernel) hown hKK.1 hW 3 (by decide) (hts (.fieldLink RX6 60 "WaxrowModel$House" "figures" "[[I") (by decide +kernel)) rfl (v := .ref (L 4 0)) rfl dX6_clean_65 ?_
        refine lv_iload_n hx hb dX6_clean_68 rfl (lv_at hl 0 rfl) ?_
        refine mh_aald hx hb hKK.2.1 hW 4 n (by decide) (by decide) (by show n < mh_n 4; unfold mh_n; simp; omega) dX6_clean_69 ?_
        refine lv_bipush (v := 6) hx hb dX6_clean_70 (by decide) ?_
        refine lv_iconst (v := 0) hx hb dX6_clean_72 (by decide) ?_
        refine lv_aload_n hx hb dX6_clean_73 rfl (lv_at hl 1 rfl) ?_
        refine mm_house hx hb hts (by decide +kernel) hown hKK.1 hM (hts (.fieldLink RX6 10 "WaxrowModel" "house" "LWaxrowModel$House;") (by decide +kernel)) dX6_clean_74 ?_
        have hW := hM.2.1
        refine mh_get hx hb hts (by decide +kernel) hown hKK.1 hW 3 (by decide) (hts (.fieldLink RX6 60 "WaxrowModel$House" "figures" "[[I") (by decide +kernel)) rfl (v := .ref (L 4 0)) rfl dX6_clean_77 ?_
        refine lv_iload_n hx hb dX6_clean_80 rfl (lv_at hl 0 rfl) ?_
        refine mh_aald hx hb hKK.2.1 hW 4 n (by decide) (by decide) (by show n < mh_n 4; unfold mh_n; simp; omega) dX6_clean_81 ?_
        refine lv_bipush (v := 6) hx hb dX6_clean_82 (by decide) ?_
        refine mh_iald hx hb hKK.1 hW 14 n (by decide) (mh_ixR (k := 4) (by decide) (by decide) (by show n < mh_n 4; unfold mh_n; simp; omega)) (i := 6) (by unfold vp_in; decide) dX6_clean_84 ?_
        rw [show (6 : Int32).toNatClampNeg = 6 from by decide]
        refine lv_bipush (v := 6) hx hb dX6_clean_85 (by decide) ?_
        refine lv_isub hx hb dX6_clean_87 ?_
        refine va_mmax hx hb (by rw [hml]; exact hl.1.symm) hown (hts (.methodLink RX6 26 Lib.Math.max.name) (by decide +kernel)) (hts (.static Lib.Math.max.name) (by decide +kernel)) (hts (.initialized "java/lang/Math") (by decide +kernel)) (hts (.code Lib.Math.max.name Lib.Math.max.code 2 (some .int)) (by decide +kernel)) (Nat.le_of_ble_eq_true rfl) (Nat.le_of_ble_eq_true rfl) (Nat.zero_le _) (Nat.zero_le _) dX6_clean_88 ?_
        have hW := hM.2.1
        refine mh_iast hx hb hKK.1 hW hS 14 n (by decide) (mh_ixR (k := 4) (by decide) (by decide) (by show n < mh_n 4; unfold mh_n; simp; omega)) (i := 6) (x := if 0 < ((mp_clean ρ x n) 14 n 6) - 6 then ((mp_clean ρ x n) 14 n 6) - 6 else 0) (by unfold vp_in; decide) dX6_clean_91 (fun H locs hW hS hz hq => ?_)
        rw [show (6 : Int32).toNatClampNeg = 6 from by decide] at hW
        have hW : mh_W D d.1 cB L (hs_sg (mp_clean ρ x n) 14 n 6 (if 0 < ((mp_clean ρ x n) 14 n 6) - 6 then ((mp_clean ρ x n) 14 n 6) - 6 else 0)) A H := hW
        have hM : mm_W D d cB L m0 0 (hs_sg (mp_clean ρ x n) 14 n 6 (if 0 < ((mp_clean ρ x n) 14 n 6) - 6 then ((mp_clean ρ x n) 14 n 6) - 6 else 0)) A H := ⟨hM.1.kept (hq _ (fun z => hM.2.2.2 14 n (mh_ixR (k := 4) (by decide) (by decide) (by show n < mh_n 4; unfold mh_n; simp; omega)) z.symm)), hW, hM.2.2⟩
        refine lv_iinc (v := nI (n + 1)) (lv' := [(2, .int (nI (n + 1))), (0, .ref m0), (1, .int x)]) hx hb dX6_clean_92 hl (k := 0) rfl (nI_succ _).symm (by decide) rfl (fun ls hl => ?_)
        refine lv_goto (tgt := 34) hx hb dX6_clean_95 (by decide) ?_
        have hM : mm_W D d cB L m0 0 (mp_clean ρ x (n + 1)) A H := by rw [show mp_clean ρ x (n + 1) = _ from if_pos c_58]; exact hM
        exact ih (n + 1) (by omega) _ _ hM hS ls (lv_sub hl [0, 1, 2] rfl)
set_option maxHeartbeats 4000000 in
set_option maxRecDepth 100000 in
/-- the reference: X6_clean -/
theorem kX6_clean (l : Launch) (D : va_G) (d : hs_Dm) (cB : ClassId) (L : hs_Lo) (m0 : Nat) (th : Int32) (ρ : hs_St) (A : Nat → Prop) (sz : Nat) (P F R : Nat) (hok : mh_ok P F R ρ) (x : Int32) : mm_Mi l yX6_clean wsX6_clean ({ frames := 2, cells := 0, slots := 0, locals := 80 } : Room) D d cB L m0 th ρ A sz [.ref m0, .int x] (fun r X => mp_cleanP F R ρ x r X) 0 0 := by
  refine Met.ofW (cc := cX6_clean) (maxL := 3) (ret := (some .int)) (by decide) rfl ?_
  intro p e s m args below meth c0 s₁ B hml hv
  obtain ⟨rfl, hsz, hM, hKK⟩ := hv
  have hx := B.exec
  have hb := B.bytes
  have hr := B.returns
  have hts := atoms_spec (ws := wsX6_clean) B.pre
  have hown : s.vm.findClass RX6 = some m.cls := findClass_of_methodNamed B.named
  have hlocks := B.notSynchronized
  have hS : va_S A s.heap s.heap [] := va_S.rf
  have hl := lv_entry ([.ref m0, .int x]) (n := 3) (Nat.le_of_ble_eq_true rfl)
  rw [lg_entry_eq]
  generalize (lg_sl ([.ref m0, .int x]) ++ List.replicate (3 - (lg_sl ([.ref m0, .int x])).length) Slot.unset).toArray = ls at hl ⊢
  have hl : lv_has ls 3 [(0, .ref m0), (1, .int x)] := hl
  refine lv_aload_n hx hb dX6_clean_0 rfl (lv_at hl 0 rfl) ?_
  refine lv_iconst (v := 0) hx hb dX6_clean_1 (by decide) ?_
  refine mm_putt hx hb hts (by decide +kernel) hown hKK.1 hM hS (hts (.fieldLink RX6 16 "WaxrowModel" "thrown" "I") (by decide +kernel)) (0 : Int32) dX6_clean_2 (fun H locs hM hS hz => ?_)
  have hM : mm_W D d cB L m0 0 ρ A H := hM
  have hW := hM.2.1
  refine lv_aload_n hx hb dX6_clean_5 rfl (lv_at hl 0 rfl) ?_
  refine lv_iload_n hx hb dX6_clean_6 rfl (lv_at hl 1 rfl) ?_
  refine mm_calli (As := [.int x]) ⟨hx, hb, hml, hown, hts⟩ (kX6_isRoom l D d cB L m0 (0 : Int32) ρ A H.size P F R hok x) (cwV 1 hts gX6_clean_X6_isRoom rfl rfl rfl (by decide +kernel) ⟨Nat.le_of_ble_eq_true rfl, Nat.le_of_ble_eq_true rfl⟩) hKK hM hS rfl hl.1 (Nat.le_of_ble_eq_true rfl) dX6_clean_7 ⟨Nat.le_of_ble_eq_true rfl, Nat.le_of_ble_eq_true rfl⟩ rfl (fun r_ X_ H locs hp hM hz hS => ?_)
  obtain ⟨t_, τ_⟩ := X_
  obtain ⟨e1_, e2_, e3_⟩ := hp
  have e2_ : (0 : Int32) = t_ := e2_
  have e3_ : ρ = τ_ := e3_
  subst e1_ e2_ e3_
  have hM : mm_W D d cB L m0 0 ρ A H := hM
  have hW := hM.2.1
  refine lv_if_ne (tgt := 19) hx hb dX6_clean_10 (by decide) (fun c_10 => ?_) (fun c_10 => ?_)
  · refine lv_aload_n hx hb dX6_clean_19 rfl (lv_at hl 0 rfl) ?_
    refine mm_house hx hb hts (by decide +kernel) hown hKK.1 hM (hts (.fieldLink RX6 10 "WaxrowModel" "house" "LWaxrowModel$House;") (by decide +kernel)) dX6_clean_20 ?_
    have hW := hM.2.1
    refine lv_dup hx hb dX6_clean_23 rfl ?_
    refine mh_get hx hb hts (by decide +kernel) hown hKK.1 hW 12 (by decide) (hts (.fieldLink RX6 70 "WaxrowModel$House" "money" "I") (by decide +kernel)) rfl (v := .int (ρ 0 0 12)) rfl dX6_clean_24 ?_
    refine lv_iconst (v := 5) hx hb dX6_clean_27 (by decide) ?_
    refine lv_isub hx hb dX6_clean_28 ?_
    have hW := hM.2.1
    refine mh_puti hx hb hts (by decide +kernel) hown hKK.1 hW hS 12 (by decide) (hts (.fieldLink RX6 70 "WaxrowModel$House" "money" "I") (by decide +kernel)) rfl rfl ((ρ 0 0 12) - 5) (by decide +kernel) rfl dX6_clean_29 (fun H locs hW hS hz hq => ?_)
    have hW : mh_W D d.1 cB L (hs_sg ρ 0 0 12 ((ρ 0 0 12) - 5)) A H := hW
    have hM : mm_W D d cB L m0 0 (hs_sg ρ 0 0 12 ((ρ 0 0 12) - 5)) A H := ⟨hM.1.kept (hq _ (fun z => hM.2.2.2 0 0 (mh_ixO (by decide)) z.symm)), hW, hM.2.2⟩
    refine lv_iconst (v := 0) hx hb dX6_clean_32 (by decide) ?_
    refine lv_istore_n (lv' := [(2, .int 0), (0, .ref m0), (1, .int x)]) hx hb dX6_clean_33 rfl hl (by decide) rfl (fun ls hl => ?_)
    refine MQ_post (lkX6_clean l D d cB L m0 0 (hs_sg ρ 0 0 12 (ρ 0 0 12 - 5)) A sz P F R (hok.sg0 12 _ (by decide)) x hx hb hr hts hown hlocks hml hKK F 0 (by omega) _ _ hM hS ls (lv_sub hl [0, 1, 2] rfl)) (fun r X h => ?_)
    exact (by show mp_cleanP F R ρ x r X; unfold mp_cleanP; rw [if_neg c_10]; exact h)
  · refine lv_aload_n hx hb dX6_clean_13 rfl (lv_at hl 0 rfl) ?_
    refine lv_iconst (v := 1) hx hb dX6_clean_14 (by decide) ?_
    refine mm_calli (As := [.int 1]) ⟨hx, hb, hml, hown, hts⟩ (kX6_no l D d cB L m0 (0 : Int32) ρ A H.size 1) (cwV 1 hts gX6_clean_X6_no rfl rfl rfl (by decide +kernel) ⟨Nat.le_of_ble_eq_true rfl, Nat.le_of_ble_eq_true rfl⟩) hKK hM hS rfl hl.1 (Nat.le_of_ble_eq_true rfl) dX6_clean_15 ⟨Nat.le_of_ble_eq_true rfl, Nat.le_of_ble_eq_true rfl⟩ rfl (fun r_ X_ H locs hp hM hz hS => ?_)
    obtain ⟨t_, τ_⟩ := X_
    obtain ⟨e1_, e2_, e3_⟩ := hp
    have e2_ : (1 : Int32) = t_ := e2_
    have e3_ : ρ = τ_ := e3_
    subst e1_ e2_ e3_
    have hM : mm_W D d cB L m0 1 ρ A H := hM
    have hW := hM.2.1
    exact W.iret (v := 0) hx hb hr (fun t ht hW9 => ⟨⟨0, (1, ρ), rfl, (by show mp_cleanP F R ρ x _ _; unfold mp_cleanP; rw [if_pos c_10]; exact ⟨rfl, rfl, rfl⟩), by show mm_W D d cB L m0 _ _ A t.heap; rw [ht]; exact hM⟩, hS.F ht⟩) hS.2.2 dX6_clean_18
def mp_unshow (ρ : hs_St) (q : Nat) : Nat → Int32 × hs_St
  | 0 => (0, ρ)
  | n + 1 => if mp_isShown (mp_unshow ρ q n).2 n = 0 then mp_unshow ρ q n else if (mp_unshow ρ q n).2 14 n 0 = nI q then ((mp_unshow ρ q n).1 + 1, hs_sg (mp_unshow ρ q n).2 14 n 7 5) else mp_unshow ρ q n
theorem mh_ok.store {P F R : Nat} {ρ : hs_St} (h : mh_ok P F R ρ) (n : Nat) : mh_ok P F R (hs_sg ρ 14 n 7 5) := h.of ⟨by rw [pc9, if_neg (by omega)], by rw [pc9, if_neg (by omega)], by rw [pc9, if_neg (by omega)]⟩ (fun f _ => ⟨by rw [pc9, if_neg (by omega)], by rw [pc9, if_neg (by omega)], by rw [pc9, if_neg (by omega)], Or.inl (by rw [pc9, if_neg (by omega)]), by
  by_cases e : f = n
  · subst e
    exact Or.inr (Or.inl (by rw [pc9, if_pos ⟨rfl, rfl, rfl⟩]))
  · exact Or.inl (by rw [pc9, if_neg (by omega)])⟩)
theorem mh_ok.unshow {P F R : Nat} {ρ : hs_St} (h : mh_ok P F R ρ) (q : Nat) : ∀ n, mh_ok P F R (mp_unshow ρ q n).2
  | 0 => h
  | n + 1 => by
    unfold mp_unshow
    split
    · exact mh_ok.unshow h q n
    · split
      · exact (mh_ok.unshow h q n).store n
      · exact mh_ok.unshow h q n
theorem mh_ok.sg11 {P F R : Nat} {ρ : hs_St} (h : mh_ok P F R ρ) (k q j : Nat) (v : Int32) (hk : k ≠ 0) (hk2 : k ≠ 14) : mh_ok P F R (hs_sg ρ k q j v) := h.of ⟨by rw [pc9, if_neg (by omega)], by rw [pc9, if_neg (by omega)], by rw [pc9, if_neg (by omega)]⟩ (fun f _ => ⟨by rw [pc9, if_neg (by omega)], by rw [pc9, if_neg (by omega)], by rw [pc9, if_neg (by omega)], Or.inl (by rw [pc9, if_neg (by omega)]), Or.inl (by rw [pc9, if_neg (by omega)])⟩)
def mp_cons (ρ : hs_St) (F q : Nat) (z : Int32) : Int32 × hs_St := if z = 0 then mp_unshow (hs_sg ρ 11 q 6 0) q F else (0, hs_sg ρ 11 q 6 1)
def mp_consentP (P F : Nat) (ρ : hs_St) (x z : Int32) (r : Int32) (X : mm_X) : Prop := if mp_in x 0 (nI P - 1) = 0 then ((0 : Int32) = r ∧ (1 : Int32) = X.1 ∧ ρ = X.2) else ((mp_cons ρ F x.toNatClampNeg z).1 = r ∧ (0 : Int32) = X.1 ∧ (mp_cons ρ F x.toNatClampNeg z).2 = X.2)
set_option maxHeartbeats 4000000 in
set_option maxRecDepth 100000 in
/-- the reference: X6_consent: the loop at 45 -/
theorem lkX6_consent (l : Launch) (D : va_G) (d : hs_Dm) (cB : ClassId) (L : hs_Lo) (m0 : Nat) (th : Int32) (ρ : hs_St) (A : Nat → Prop) (sz : Nat) (P F R : Nat) (hok : mh_ok P F R ρ) (j : Nat) (z : Int32) (hz : z = 0) {p : Program} {e : Env} {s : State} {m : MethodId} {args : Array Value} {below : List Frame} {meth : Method} {c0 : Code} (hx : p.tables.exec = Jvm.exec) (hb : c0.code = cX6_consent) (hr : meth.sig.returnType = (some .int)) (hts : ∀ w ∈ wsX6_consent, w.before args s = true) (hown : s.vm.findClass RX6 = some m.cls) (hlocks : meth.locks = false) (hml : c0.maxLocals = 6) (hKK : mh_K D d cB s) : ∀ (kk n : Nat), n + kk = F → ∀ (H : Heap) (locs : List Loc), mm_W D d cB L m0 0 ((mp_unshow ρ j n).2) A H → va_S A s.heap H locs → ∀ ls : Array Slot, lv_has ls 6 [(4, .int (nI n)), (3, .int ((mp_unshow ρ j n).1)), (0, .ref m0), (1, .int (nI j)), (2, .int z)] → W p l e (({ frames := 2, cells := 0, slots := 0, locals := 80 } : Room)) s m args below meth c0 H locs 0 0 (MQ below (va_Qi (fun r X => (mp_unshow ρ j F).1 = r ∧ (0 : Int32) = X.1 ∧ (mp_unshow ρ j F).2 = X.2) (fun (X : mm_X) t => mm_W D d cB L m0 X.1 X.2 A t.heap) A) args s 0 0 A) (F0 m 45 ls []) := by
  intro kk
  induction kk with
  | zero =>
    intro n hn H locs hM hS ls hl
    have hnN : n = F := by omega
    have hW := hM.2.1
    have hF8 := hok.2.1
    refine lv_iload hx hb dX6_consent_45 (lv_at hl 0 rfl) ?_
    refine lv_aload_n hx hb dX6_consent_47 rfl (lv_at hl 2 rfl) ?_
    refine mm_house hx hb hts (by decide +kernel) hown hKK.1 hM (hts (.fieldLink RX6 10 "WaxrowModel" "house" "LWaxrowModel$House;") (by decide +kernel)) dX6_consent_48 ?_
    have hW := hM.2.1
    refine mh_get hx hb hts (by decide +kernel) hown hKK.1 hW 7 (by decide) (hts (.fieldLink RX6 36 "WaxrowModel$House" "figureCount" "I") (by decide +kernel)) rfl (v := .int (((mp_unshow ρ j n).2) 0 0 7)) rfl dX6_consent_51 ?_
    rw [show ((mp_unshow ρ j n).2) 0 0 7 = nI F from (hok.unshow j n).2.2.2.2.1]
    refine lv_icmp_ge (tgt := 111) hx hb dX6_consent_54 (by decide) (fun c_54 => ?_) (fun c_54 => ?_)
    · refine lv_iload_n hx hb dX6_consent_111 rfl (lv_at hl 1 rfl) ?_
      exact W.iret (v := (mp_unshow ρ j n).1) hx hb hr (fun t ht hW9 => ⟨⟨(mp_unshow ρ j n).1, (0, (mp_unshow ρ j n).2), rfl, (by subst hnN; exact ⟨rfl, rfl, rfl⟩), by show mm_W D d cB L m0 _ _ A t.heap; rw [ht]; exact hM⟩, hS.F ht⟩) hS.2.2 dX6_consent_112
    · exact absurd (by rw [hnN]; exact nI_le (a := F) (b := F) (Nat.le_refl _) (by omega)) c_54
  | succ kk ih =>
    intro n hn H locs hM hS ls hl
    have hnN : n < F := by omega
    have hW := hM.2.1
    have hF8 := hok.2.1
    refine lv_iload hx hb dX6_consent_45 (lv_at hl 0 rfl) ?_
    refine lv_aload_n hx hb dX6_consent_47 rfl (lv_at hl 2 rfl) ?_
    refine mm_house hx hb hts (by decide +kernel) hown hKK.1 hM (hts (.fieldLink RX6 10 "WaxrowModel" "house" "LWaxrowModel$House;") (by decide +kernel)) dX6_consent_48 ?_
    have hW := hM.2.1
    refine mh_get hx hb hts (by decide +kernel) hown hKK.1 hW 7 (by decide) (hts (.fieldLink RX6 36 "WaxrowModel$House" "figureCount" "I") (by decide +kernel)) rfl (v := .int (((mp_unshow ρ j n).2) 0 0 7)) rfl dX6_consent_51 ?_
    rw [show ((mp_unshow ρ j n).2) 0 0 7 = nI F from (hok.unshow j n).2.2.2.2.1]
    refine lv_icmp_ge (tgt := 111) hx hb dX6_consent_54 (by decide) (fun c_54 => ?_) (fun c_54 => ?_)
    · exact absurd c_54 (nI_ge (b := F) hnN (by omega))
    · refine lv_iload_n hx hb dX6_consent_57 rfl (lv_at hl 4 rfl) ?_
      refine lv_if_ne (tgt := 111) hx hb dX6_consent_58 (by decide) (fun c_58 => ?_) (fun c_58 => ?_)
      · exact absurd hz c_58
      · refine lv_aload_n hx hb dX6_consent_61 rfl (lv_at hl 2 rfl) ?_
        refine mm_house hx hb hts (by decide +kernel) hown hKK.1 hM (hts (.fieldLink RX6 10 "WaxrowModel" "house" "LWaxrowModel$House;") (by decide +kernel)) dX6_consent_62 ?_
        have hW := hM.2.1
        refine mh_get hx hb hts (by decide +kernel) hown hKK.1 hW 3 (by decide) (hts (.fieldLink RX6 60 "WaxrowModel$House" "figures" "[[I") (by decide +kernel)) rfl (v := .ref (L 4 0)) rfl dX6_consent_65 ?_
        refine lv_iload hx hb dX6_consent_68 (lv_at hl 0 rfl) ?_
        refine mh_aald hx hb hKK.2.1 hW 4 n (by decide) (by decide) (by show n < mh_n 4; unfold mh_n; simp; omega) dX6_consent_70 ?_
        refine lv_astore (lv' := [(5, .ref (L 14 n)), (4, .int (nI n)), (3, .int ((mp_unshow ρ j n).1)), (0, .ref m0), (1, .int (nI j)), (2, .int z)]) hx hb dX6_consent_71 hl (by decide) rfl (fun ls hl => ?_)
        refine lv_aload_n hx hb dX6_consent_73 rfl (lv_at hl 3 rfl) ?_
        refine mm_house hx hb hts (by decide +kernel) hown hKK.1 hM (hts (.fieldLink RX6 10 "WaxrowModel" "house" "LWaxrowModel$House;") (by decide +kernel)) dX6_consent_74 ?_
        have hW := hM.2.1
        refine lv_aload hx hb dX6_consent_77 (lv_at hl 0 rfl) ?_
        refine mh_callo (As := [.ref (L 14 n)]) ⟨hx, hb, hml, hown, hts⟩ (kX5_isShown l D d cB L ((mp_unshow ρ j n).2) (mh_own L) H.size n (by omega)) (cwV 1 hts gX6_consent_X5_isShown rfl rfl rfl (by decide +kernel) ⟨Nat.le_of_ble_eq_true rfl, Nat.le_of_ble_eq_true rfl⟩) hKK hW hS rfl hl.1 (Nat.le_of_ble_eq_true rfl) dX6_consent_79 ⟨Nat.le_of_ble_eq_true rfl, Nat.le_of_ble_eq_true rfl⟩ rfl (fun r_ τ_ H locs hp hW hz hqq hS => ?_)
        obtain ⟨e1_, e2_⟩ := hp
        subst e1_ e2_
        have hM : mm_W D d cB L m0 (0 : Int32) ((mp_unshow ρ j n).2) A H := ⟨hM.1.kept (hqq _ hM.1.lt (fun ⟨k9, i9, hx9, e9⟩ => hM.2.2.2 k9 i9 hx9 e9.symm)), hW, hM.2.2⟩
        refine lv_if_eq (tgt := 105) hx hb dX6_consent_82 (by decide) (fun c_82 => ?_) (fun c_82 => ?_)
        · refine lv_iinc (v := nI (n + 1)) (lv' := [(4, .int (nI (n + 1))), (5, .ref (L 14 n)), (3, .int ((mp_unshow ρ j n).1)), (0, .ref m0), (1, .int (nI j)), (2, .int z)]) hx hb dX6_consent_105 hl (k := 1) rfl (nI_succ _).symm (by decide) rfl (fun ls hl => ?_)
          refine lv_goto (tgt := 45) hx hb dX6_consent_108 (by decide) ?_
          have hst : mp_unshow ρ j (n + 1) = _ := if_pos c_82
          have hM : mm_W D d cB L m0 0 (mp_unshow ρ j (n + 1)).2 A H := by rw [hst]; exact hM
          exact ih (n + 1) (by omega) _ _ hM hS ls (by rw [hst]; exact (lv_sub hl [0, 2, 3, 4, 5] rfl))
        · refine lv_aload hx hb dX6_consent_85 (lv_at hl 0 rfl) ?_
          refine lv_iconst (v := 0) hx hb dX6_consent_87 (by decide) ?_
          refine mh_iald hx hb hKK.1 hW 14 n (by decide) (mh_ixR (k := 4) (by decide) (by decide) (by show n < mh_n 4; unfold mh_n; simp; omega)) (i := 0) (by unfold vp_in; decide) dX6_consent_88 ?_
          rw [show (0 : Int32).toNatClampNeg = 0 from by decide]
          refine lv_iload_n hx hb dX6_consent_89 rfl (lv_at hl 4 rfl) ?_
          refine lv_icmp_eq (tgt := 96) hx hb dX6_consent_90 (by decide) (fun c_90 => ?_) (fun c_90 => ?_)
          · refine lv_aload hx hb dX6_consent_96 (lv_at hl 0 rfl) ?_
            refine lv_bipush (v := 7) hx hb dX6_consent_98 (by decide) ?_
            refine lv_iconst (v := 5) hx hb dX6_consent_100 (by decide) ?_
            have hW := hM.2.1
            refine mh_iast hx hb hKK.1 hW hS 14 n (by decide) (mh_ixR (k := 4) (by decide) (by decide) (by show n < mh_n 4; unfold mh_n; simp; omega)) (i := 7) (x := 5) (by unfold vp_in; decide) dX6_consent_101 (fun H locs hW hS hz hq => ?_)
            rw [show (7 : Int32).toNatClampNeg = 7 from by decide] at hW
            have hW : mh_W D d.1 cB L (hs_sg ((mp_unshow ρ j n).2) 14 n 7 (5 : Int32)) A H := hW
            have hM : mm_W D d cB L m0 0 (hs_sg ((mp_unshow ρ j n).2) 14 n 7 (5 : Int32)) A H := ⟨hM.1.kept (hq _ (fun z => hM.2.2.2 14 n (mh_ixR (k := 4) (by decide) (by decide) (by show n < mh_n 4; unfold mh_n; simp; omega)) z.symm)), hW, hM.2.2⟩
            refine lv_iinc (v := ((mp_unshow ρ j n).1) + 1) (lv' := [(3, .int (((mp_unshow ρ j n).1) + 1)), (5, .ref (L 14 n)), (4, .int (nI n)), (0, .ref m0), (1, .int (nI j)), (2, .int z)]) hx hb dX6_consent_102 hl (k := 2) rfl rfl (by decide) rfl (fun ls hl => ?_)
            refine lv_iinc (v := nI (n + 1)) (lv' := [(4, .int (nI (n + 1))), (3, .int (((mp_unshow ρ j n).1) + 1)), (5, .ref (L 14 n)), (0, .ref m0), (1, .int (nI j)), (2, .int z)]) hx hb dX6_consent_105 hl (k := 2) rfl (nI_succ _).symm (by decide) rfl (fun ls hl => ?_)
            refine lv_goto (tgt := 45) hx hb dX6_consent_108 (by decide) ?_
            have hst : mp_unshow ρ j (n + 1) = _ := (if_neg c_82).trans (if_pos c_90)
            have hM : mm_W D d cB L m0 0 (mp_unshow ρ j (n + 1)).2 A H := by rw [hst]; exact hM
            exact ih (n + 1) (by omega) _ _ hM hS ls (by rw [hst]; exact (lv_sub hl [0, 1, 3, 4, 5] rfl))
          · refine lv_goto (tgt := 105) hx hb dX6_consent_93 (by decide) ?_
            refine lv_iinc (v := nI (n + 1)) (lv' := [(4, .int (nI (n + 1))), (5, .ref (L 14 n)), (3, .int ((mp_unshow ρ j n).1)), (0, .ref m0), (1, .int (nI j)), (2, .int z)]) hx hb dX6_consent_105 hl (k := 1) rfl (nI_succ _).symm (by decide) rfl (fun ls hl => ?_)
            refine lv_goto (tgt := 45) hx hb dX6_consent_108 (by decide) ?_
            have hst : mp_unshow ρ j (n + 1) = _ := (if_neg c_82).trans (if_neg c_90)
            have hM : mm_W D d cB L m0 0 (mp_unshow ρ j (n + 1)).2 A H := by rw [hst]; exact hM
            exact ih (n + 1) (by omega) _ _ hM hS ls (by rw [hst]; exact (lv_sub hl [0, 2, 3, 4, 5] rfl))
set_option maxHeartbeats 4000000 in
set_option maxRecDepth 100000 in
/-- the reference: X6_consent -/
theorem kX6_consent (l : Launch) (D : va_G) (d : hs_Dm) (cB : ClassId) (L : hs_Lo) (m0 : Nat) (th : Int32) (ρ : hs_St) (A : Nat → Prop) (sz : Nat) (P F R : Nat) (hok : mh_ok P F R ρ) (x z : Int32) : mm_Mi l yX6_consent wsX6_consent ({ frames := 2, cells := 0, slots := 0, locals := 80 } : Room) D d cB L m0 th ρ A sz [.ref m0, .int x, .int z] (fun r X => mp_consentP P F ρ x z r X) 0 0 := by
  refine Met.ofW (cc := cX6_consent) (maxL := 6) (ret := (some .int)) (by decide) rfl ?_
  intro p e s m args below meth c0 s₁ B hml hv
  obtain ⟨rfl, hsz, hM, hKK⟩ := hv
  have hx := B.exec
  have hb := B.bytes
  have hr := B.returns
  have hts := atoms_spec (ws := wsX6_consent) B.pre
  have hown : s.vm.findClass RX6 = some m.cls := findClass_of_methodNamed B.named
  have hlocks := B.notSynchronized
  have hS : va_S A s.heap s.heap [] := va_S.rf
  have hl := lv_entry ([.ref m0, .int x, .int z]) (n := 6) (Nat.le_of_ble_eq_true rfl)
  rw [lg_entry_eq]
  generalize (lg_sl ([.ref m0, .int x, .int z]) ++ List.replicate (6 - (lg_sl ([.ref m0, .int x, .int z])).length) Slot.unset).toArray = ls at hl ⊢
  have hl : lv_has ls 6 [(0, .ref m0), (1, .int x), (2, .int z)] := hl
  refine lv_aload_n hx hb dX6_consent_0 rfl (lv_at hl 0 rfl) ?_
  refine lv_iconst (v := 0) hx hb dX6_consent_1 (by decide) ?_
  refine mm_putt hx hb hts (by decide +kernel) hown hKK.1 hM hS (hts (.fieldLink RX6 16 "WaxrowModel" "thrown" "I") (by decide +kernel)) (0 : Int32) dX6_consent_2 (fun H locs hM hS hz => ?_)
  have hM : mm_W D d cB L m0 0 ρ A H := hM
  have hW := hM.2.1
  refine lv_aload_n hx hb dX6_consent_5 rfl (lv_at hl 0 rfl) ?_
  refine lv_iload_n hx hb dX6_consent_6 rfl (lv_at hl 1 rfl) ?_
  refine mm_calli (As := [.int x]) ⟨hx, hb, hml, hown, hts⟩ (kX6_isPerson l D d cB L m0 (0 : Int32) ρ A H.size P F R hok x) (cwV 1 hts gX6_consent_X6_isPerson rfl rfl rfl (by decide +kernel) ⟨Nat.le_of_ble_eq_true rfl, Nat.le_of_ble_eq_true rfl⟩) hKK hM hS rfl hl.1 (Nat.le_of_ble_eq_true rfl) dX6_consent_7 ⟨Nat.le_of_ble_eq_true rfl, Nat.le_of_ble_eq_true rfl⟩ rfl (fun r_ X_ H locs hp hM hz hS => ?_)
  obtain ⟨t_, τ_⟩ := X_
  obtain ⟨e1_, e2_, e3_⟩ := hp
  have e2_ : (0 : Int32) = t_ := e2_
  have e3_ : ρ = τ_ := e3_
  subst e1_ e2_ e3_
  have hM : mm_W D d cB L m0 0 ρ A H := hM
  have hW := hM.2.1
  refine lv_if_ne (tgt := 19) hx hb dX6_consent_10 (by decide) (fun c_10 => ?_) (fun c_10 => ?_)
  · have hb9 : P ≤ 10 := hok.1
    obtain ⟨j, hj9, ej9⟩ := mp_in_ix (by omega) c_10
    subst ej9
    have hj : j < P := hj9
    have hclj := nI_clamp (n := j) (by omega)
    refine lv_aload_n hx hb dX6_consent_19 rfl (lv_at hl 0 rfl) ?_
    refine mm_house hx hb hts (by decide +kernel) hown hKK.1 hM (hts (.fieldLink RX6 10 "WaxrowModel" "house" "LWaxrowModel$House;") (by decide +kernel)) dX6_consent_20 ?_
    have hW := hM.2.1
    refine mh_get hx hb hts (by decide +kernel) hown hKK.1 hW 0 (by decide) (hts (.fieldLink RX6 46 "WaxrowModel$House" "persons" "[[I") (by decide +kernel)) rfl (v := .ref (L 1 0)) rfl dX6_consent_23 ?_
    refine lv_iload_n hx hb dX6_consent_26 rfl (lv_at hl 1 rfl) ?_
    refine mh_aald hx hb hKK.2.1 hW 1 j (by decide) (by decide) (by show j < mh_n 1; unfold mh_n; simp; omega) dX6_consent_27 ?_
    refine lv_bipush (v := 6) hx hb dX6_consent_28 (by decide) ?_
    refine lv_iload_n hx hb dX6_consent_30 rfl (lv_at hl 2 rfl) ?_
    refine lv_if_eq (tgt := 38) hx hb dX6_consent_31 (by decide) (fun c_31 => ?_) (fun c_31 => ?_)
    · refine lv_iconst (v := 0) hx hb dX6_consent_38 (by decide) ?_
      have hW := hM.2.1
      refine mh_iast hx hb hKK.1 hW hS 11 j (by decide) (mh_ixR (k := 1) (by decide) (by decide) (by show j < mh_n 1; unfold mh_n; simp; omega)) (i := 6) (x := 0) (by unfold vp_in; decide) dX6_consent_39 (fun H locs hW hS hz hq => ?_)
      rw [show (6 : Int32).toNatClampNeg = 6 from by decide] at hW
      have hW : mh_W D d.1 cB L (hs_sg ρ 11 j 6 (0 : Int32)) A H := hW
      have hM : mm_W D d cB L m0 0 (hs_sg ρ 11 j 6 (0 : Int32)) A H := ⟨hM.1.kept (hq _ (fun z => hM.2.2.2 11 j (mh_ixR (k := 1) (by decide) (by decide) (by show j < mh_n 1; unfold mh_n; simp; omega)) z.symm)), hW, hM.2.2⟩
      refine lv_iconst (v := 0) hx hb dX6_consent_40 (by decide) ?_
      refine lv_istore_n (lv' := [(3, .int 0), (0, .ref m0), (1, .int (nI j)), (2, .int z)]) hx hb dX6_consent_41 rfl hl (by decide) rfl (fun ls hl => ?_)
      refine lv_iconst (v := 0) hx hb dX6_consent_42 (by decide) ?_
      refine lv_istore (lv' := [(4, .int 0), (3, .int 0), (0, .ref m0), (1, .int (nI j)), (2, .int z)]) hx hb dX6_consent_43 hl (by decide) rfl (fun ls hl => ?_)
      refine MQ_post (lkX6_consent l D d cB L m0 0 (hs_sg ρ 11 j 6 (0 : Int32)) A sz P F R (hok.sg11 11 j 6 0 (by decide) (by decide)) j z c_31 hx hb hr hts hown hlocks hml hKK F 0 (by omega) _ _ hM hS ls (lv_sub hl [0, 1, 2, 3, 4] rfl)) (fun r X h => ?_)
      exact (by show mp_consentP P F ρ (nI j) z r X; unfold mp_consentP mp_cons; rw [if_neg c_10, hclj, if_pos c_31]; exact h)
    · refine lv_iconst (v := 1) hx hb dX6_consent_34 (by decide) ?_
      refine lv_goto (tgt := 39) hx hb dX6_consent_35 (by decide) ?_
      have hW := hM.2.1
      refine mh_iast hx hb hKK.1 hW hS 11 j (by decide) (mh_ixR (k := 1) (by decide) (by decide) (by show j < mh_n 1; unfold mh_n; simp; omega)) (i := 6) (x := 1) (by unfold vp_in; decide) dX6_consent_39 (fun H locs hW hS hz hq => ?_)
      rw [show (6 : Int32).toNatClampNeg = 6 from by decide] at hW
      have hW : mh_W D d.1 cB L (hs_sg ρ 11 j 6 (1 : Int32)) A H := hW
      have hM : mm_W D d cB L m0 0 (hs_sg ρ 11 j 6 (1 : Int32)) A H := ⟨hM.1.kept (hq _ (fun z => hM.2.2.2 11 j (mh_ixR (k := 1) (by decide) (by decide) (by show j < mh_n 1; unfold mh_n; simp; omega)) z.symm)), hW, hM.2.2⟩
      refine lv_iconst (v := 0) hx hb dX6_consent_40 (by decide) ?_
      refine lv_istore_n (lv' := [(3, .int 0), (0, .ref m0), (1, .int (nI j)), (2, .int z)]) hx hb dX6_consent_41 rfl hl (by decide) rfl (fun ls hl => ?_)
      refine lv_iconst (v := 0) hx hb dX6_consent_42 (by decide) ?_
      refine lv_istore (lv' := [(4, .int 0), (3, .int 0), (0, .ref m0), (1, .int (nI j)), (2, .int z)]) hx hb dX6_consent_43 hl (by decide) rfl (fun ls hl => ?_)
      refine lv_iload hx hb dX6_consent_45 (lv_at hl 0 rfl) ?_
      refine lv_aload_n hx hb dX6_consent_47 rfl (lv_at hl 2 rfl) ?_
      refine mm_house hx hb hts (by decide +kernel) hown hKK.1 hM (hts (.fieldLink RX6 10 "WaxrowModel" "house" "LWaxrowModel$House;") (by decide +kernel)) dX6_consent_48 ?_
      have hW := hM.2.1
      refine mh_get hx hb hts (by decide +kernel) hown hKK.1 hW 7 (by decide) (hts (.fieldLink RX6 36 "WaxrowModel$House" "figureCount" "I") (by decide +kernel)) rfl (v := .int ((hs_sg ρ 11 j 6 (1 : Int32)) 0 0 7)) rfl dX6_consent_51 ?_
      rw [show (hs_sg ρ 11 j 6 (1 : Int32)) 0 0 7 = nI F from by rw [pc9, if_neg (by omega)]; exact hok.2.2.2.2.1]
      refine lv_icmp_ge (tgt := 111) hx hb dX6_consent_54 (by decide) (fun c_54 => ?_) (fun c_54 => ?_)
      · refine lv_iload_n hx hb dX6_consent_111 rfl (lv_at hl 1 rfl) ?_
        exact W.iret (v := 0) hx hb hr (fun t ht hW9 => ⟨⟨0, (0, hs_sg ρ 11 j 6 (1 : Int32)), rfl, (by show mp_consentP P F ρ (nI j) z _ _; unfold mp_consentP mp_cons; rw [if_neg c_10, hclj, if_neg c_31]; exact ⟨rfl, rfl, rfl⟩), by show mm_W D d cB L m0 _ _ A t.heap; rw [ht]; exact hM⟩, hS.F ht⟩) hS.2.2 dX6_consent_112
      · refine lv_iload_n hx hb dX6_consent_57 rfl (lv_at hl 4 rfl) ?_
        refine lv_if_ne (tgt := 111) hx hb dX6_consent_58 (by decide) (fun c_58 => ?_) (fun c_58 => ?_)
        · refine lv_iload_n hx hb dX6_consent_111 rfl (lv_at hl 1 rfl) ?_
          exact W.iret (v := 0) hx hb hr (fun t ht hW9 => ⟨⟨0, (0, hs_sg ρ 11 j 6 (1 : Int32)), rfl, (by show mp_consentP P F ρ (nI j) z _ _; unfold mp_consentP mp_cons; rw [if_neg c_10, hclj, if_neg c_31]; exact ⟨rfl, rfl, rfl⟩), by show mm_W D d cB L m0 _ _ A t.heap; rw [ht]; exact hM⟩, hS.F ht⟩) hS.2.2 dX6_consent_112
        · exact absurd c_58 c_31
  · refine lv_aload_n hx hb dX6_consent_13 rfl (lv_at hl 0 rfl) ?_
    refine lv_iconst (v := 1) hx hb dX6_consent_14 (by decide) ?_
    refine mm_calli (As := [.int 1]) ⟨hx, hb, hml, hown, hts⟩ (kX6_no l D d cB L m0 (0 : Int32) ρ A H.size 1) (cwV 1 hts gX6_consent_X6_no rfl rfl rfl (by decide +kernel) ⟨Nat.le_of_ble_eq_true rfl, Nat.le_of_ble_eq_true rfl⟩) hKK hM hS rfl hl.1 (Nat.le_of_ble_eq_true rfl) dX6_consent_15 ⟨Nat.le_of_ble_eq_true rfl, Nat.le_of_ble_eq_true rfl⟩ rfl (fun r_ X_ H locs hp hM hz hS => ?_)
    obtain ⟨t_, τ_⟩ := X_
    obtain ⟨e1_, e2_, e3_⟩ := hp
    have e2_ : (1 : Int32) = t_ := e2_
    have e3_ : ρ = τ_ := e3_
    subst e1_ e2_ e3_
    have hM : mm_W D d cB L m0 1 ρ A H := hM
    have hW := hM.2.1
    exact W.iret (v := 0) hx hb hr (fun t ht hW9 => ⟨⟨0, (1, ρ), rfl, (by show mp_consentP P F ρ x z _ _; unfold mp_consentP; rw [if_pos c_10]; exact ⟨rfl, rfl, rfl⟩), by show mm_W D d cB L m0 _ _ A t.heap; rw [ht]; exact hM⟩, hS.F ht⟩) hS.2.2 dX6_consent_18
abbrev mp_clash (ρ : hs_St) (q m : Nat) (v er : Int32) : Prop := ¬ (mp_max (mp_held (v - er) 99) (ρ 12 q m)) ≤ (mp_min (mp_held (v + er) 99) (ρ 13 q m))
def mp_meas (ρ : hs_St) (q m : Nat) (v er : Int32) : hs_St := if mp_clash ρ q m v er then hs_sg (hs_sg (hs_sg ρ 11 q 8 (ρ 11 q 8 + 1)) 12 q m (mp_held (v - er) 99)) 13 q m (mp_held (v + er) 99) else hs_sg (hs_sg (hs_sg ρ 11 q 8 (ρ 11 q 8 + 0)) 12 q m (mp_max (mp_held (v - er) 99) (ρ 12 q m))) 13 q m (mp_min (mp_held (v + er) 99) (ρ 13 q m))
def mp_measureP (P : Nat) (ρ : hs_St) (x y v er : Int32) (r : Int32) (X : mm_X) : Prop := if mp_in x 0 (nI P - 1) = 0 then ((0 : Int32) = r ∧ (1 : Int32) = X.1 ∧ ρ = X.2) else if mp_in y 0 5 = 0 then ((0 : Int32) = r ∧ (1 : Int32) = X.1 ∧ ρ = X.2) else if mp_in v 0 99 = 0 then ((0 : Int32) = r ∧ (2 : Int32) = X.1 ∧ ρ = X.2) else if mp_in er 0 20 = 0 then ((0 : Int32) = r ∧ (2 : Int32) = X.1 ∧ ρ = X.2) else (mp_meas ρ x.toNatClampNeg y.toNatClampNeg v er 13 x.toNatClampNeg y.toNatClampNeg - mp_meas ρ x.toNatClampNeg y.toNatClampNeg v er 12 x.toNatClampNeg y.toNatClampNeg = r ∧ (0 : Int32) = X.1 ∧ mp_meas ρ x.toNatClampNeg y.toNatClampNeg v er = X.2)
set_option maxHeartbeats 4000000 in
set_option maxRecDepth 100000 in
/-- the reference: X6_measure -/
theorem kX6_measure (l : Launch) (D : va_G) (d : hs_Dm) (cB : ClassId) (L : hs_Lo) (m0 : Nat) (th : Int32) (ρ : hs_St) (A : Nat → Prop) (sz : Nat) (P F R : Nat) (hok : mh_ok P F R ρ) (x y v er : Int32) : mm_Mi l yX6_measure wsX6_measure ({ frames := 2, cells := 0, slots := 0, locals := 80 } : Room) D d cB L m0 th ρ A sz [.ref m0, .int x, .int y, .int v, .int er] (fun r X => mp_measureP P ρ x y v er r X) 0 0 := by
  refine Met.ofW (cc := cX6_measure) (maxL := 8) (ret := (some .int)) (by decide) rfl ?_
  intro p e s m args below meth c0 s₁ B hml hv
  obtain ⟨rfl, hsz, hM, hKK⟩ := hv
  have hx := B.exec
  have hb := B.bytes
  have hr := B.returns
  have hts := atoms_spec (ws := wsX6_measure) B.pre
  have hown : s.vm.findClass RX6 = some m.cls := findClass_of_methodNamed B.named
  have hlocks := B.notSynchronized
  have hS : va_S A s.heap s.heap [] := va_S.rf
  have hl := lv_entry ([.ref m0, .int x, .int y, .int v, .int er]) (n := 8) (Nat.le_of_ble_eq_true rfl)
  rw [lg_entry_eq]
  generalize (lg_sl ([.ref m0, .int x, .int y, .int v, .int er]) ++ List.replicate (8 - (lg_sl ([.ref m0, .int x, .int y, .int v, .int er])).length) Slot.unset).toArray = ls at hl ⊢
  have hl : lv_has ls 8 [(0, .ref m0), (1, .int x), (2, .int y), (3, .int v), (4, .int er)] := hl
  refine lv_aload_n hx hb dX6_measure_0 rfl (lv_at hl 0 rfl) ?_
  refine lv_iconst (v := 0) hx hb dX6_measure_1 (by decide) ?_
  refine mm_putt hx hb hts (by decide +kernel) hown hKK.1 hM hS (hts (.fieldLink RX6 16 "WaxrowModel" "thrown" "I") (by decide +kernel)) (0 : Int32) dX6_measure_2 (fun H locs hM hS hz => ?_)
  have hM : mm_W D d cB L m0 0 ρ A H := hM
  have hW := hM.2.1
  refine lv_aload_n hx hb dX6_measure_5 rfl (lv_at hl 0 rfl) ?_
  refine lv_iload_n hx hb dX6_measure_6 rfl (lv_at hl 1 rfl) ?_
  refine mm_calli (As := [.int x]) ⟨hx, hb, hml, hown, hts⟩ (kX6_isPerson l D d cB L m0 (0 : Int32) ρ A H.size P F R hok x) (cwV 1 hts gX6_measure_X6_isPerson rfl rfl rfl (by decide +kernel) ⟨Nat.le_of_ble_eq_true rfl, Nat.le_of_ble_eq_true rfl⟩) hKK hM hS rfl hl.1 (Nat.le_of_ble_eq_true rfl) dX6_measure_7 ⟨Nat.le_of_ble_eq_true rfl, Nat.le_of_ble_eq_true rfl⟩ rfl (fun r_ X_ H locs hp hM hz hS => ?_)
  obtain ⟨t_, τ_⟩ := X_
  obtain ⟨e1_, e2_, e3_⟩ := hp
  have e2_ : (0 : Int32) = t_ := e2_
  have e3_ : ρ = τ_ := e3_
  subst e1_ e2_ e3_
  have hM : mm_W D d cB L m0 0 ρ A H := hM
  have hW := hM.2.1
  refine lv_if_eq (tgt := 22) hx hb dX6_measure_10 (by decide) (fun c_10 => ?_) (fun c_10 => ?_)
  · refine lv_aload_n hx hb dX6_measure_22 rfl (lv_at hl 0 rfl) ?_
    refine lv_iconst (v := 1) hx hb dX6_measure_23 (by decide) ?_
    refine mm_calli (As := [.int 1]) ⟨hx, hb, hml, hown, hts⟩ (kX6_no l D d cB L m0 (0 : Int32) ρ A H.size 1) (cwV 1 hts gX6_measure_X6_no rfl rfl rfl (by decide +kernel) ⟨Nat.le_of_ble_eq_true rfl, Nat.le_of_ble_eq_true rfl⟩) hKK hM hS rfl hl.1 (Nat.le_of_ble_eq_true rfl) dX6_measure_24 ⟨Nat.le_of_ble_eq_true rfl, Nat.le_of_ble_eq_true rfl⟩ rfl (fun r_ X_ H locs hp hM hz hS => ?_)
    obtain ⟨t_, τ_⟩ := X_
    obtain ⟨e1_, e2_, e3_⟩ := hp
    have e2_ : (1 : Int32) = t_ := e2_
    have e3_ : ρ = τ_ := e3_
    subst e1_ e2_ e3_
    have hM : mm_W D d cB L m0 1 ρ A H := hM
    have hW := hM.2.1
    exact W.iret (v := 0) hx hb hr (fun t ht hW9 => ⟨⟨0, (1, ρ), rfl, (by show mp_measureP P ρ x y v er _ _; unfold mp_measureP; rw [if_pos c_10]; exact ⟨rfl, rfl, rfl⟩), by show mm_W D d cB L m0 _ _ A t.heap; rw [ht]; exact hM⟩, hS.F ht⟩) hS.2.2 dX6_measure_27
  · refine lv_iload_n hx hb dX6_measure_13 rfl (lv_at hl 2 rfl) ?_
    refine lv_iconst (v := 0) hx hb dX6_measure_14 (by decide) ?_
    refine lv_iconst (v := 5) hx hb dX6_measure_15 (by decide) ?_
    refine mm_pure (As := [.int y, .int 0, .int 5]) ⟨hx, hb, hml, hown, hts⟩ (kX6_in l (y) (0) (5)) (va_cwS 3 hts gX6_measure_X6_in rfl rfl rfl (by decide +kernel) ⟨Nat.le_of_ble_eq_true rfl, Nat.le_of_ble_eq_true rfl⟩) hM hS rfl hl.1 (Nat.le_of_ble_eq_true rfl) dX6_measure_16 ⟨Nat.le_of_ble_eq_true rfl, Nat.le_of_ble_eq_true rfl⟩ rfl (fun r_ H locs hp hM hz hS => ?_)
    subst hp
    have hM : mm_W D d cB L m0 0 ρ A H := hM
    have hW := hM.2.1
    refine lv_if_ne (tgt := 28) hx hb dX6_measure_19 (by decide) (fun c_19 => ?_) (fun c_19 => ?_)
    · refine lv_iload_n hx hb dX6_measure_28 rfl (lv_at hl 3 rfl) ?_
      refine lv_iconst (v := 0) hx hb dX6_measure_29 (by decide) ?_
      refine lv_bipush (v := 99) hx hb dX6_measure_30 (by decide) ?_
      refine mm_pure (As := [.int v, .int 0, .int 99]) ⟨hx, hb, hml, hown, hts⟩ (kX6_in l (v) (0) (99)) (va_cwS 3 hts gX6_measure_X6_in rfl rfl rfl (by decide +kernel) ⟨Nat.le_of_ble_eq_true rfl, Nat.le_of_ble_eq_true rfl⟩) hM hS rfl hl.1 (Nat.le_of_ble_eq_true rfl) dX6_measure_32 ⟨Nat.le_of_ble_eq_true rfl, Nat.le_of_ble_eq_true rfl⟩ rfl (fun r_ H locs hp hM hz hS => ?_)
      subst hp
      have hM : mm_W D d cB L m0 0 ρ A H := hM
      have hW := hM.2.1
      refine lv_if_eq (tgt := 49) hx hb dX6_measure_35 (by decide) (fun c_35 => ?_) (fun c_35 => ?_)
      · refine lv_aload_n hx hb dX6_measure_49 rfl (lv_at hl 0 rfl) ?_
        refine lv_iconst (v := 2) hx hb dX6_measure_50 (by decide) ?_
        refine mm_calli (As := [.int 2]) ⟨hx, hb, hml, hown, hts⟩ (kX6_no l D d cB L m0 (0 : Int32) ρ A H.size 2) (cwV 1 hts gX6_measure_X6_no rfl rfl rfl (by decide +kernel) ⟨Nat.le_of_ble_eq_true rfl, Nat.le_of_ble_eq_true rfl⟩) hKK hM hS rfl hl.1 (Nat.le_of_ble_eq_true rfl) dX6_measure_51 ⟨Nat.le_of_ble_eq_true rfl, Nat.le_of_ble_eq_true rfl⟩ rfl (fun r_ X_ H locs hp hM hz hS => ?_)
        obtain ⟨t_, τ_⟩ := X_
        obtain ⟨e1_, e2_, e3_⟩ := hp
        have e2_ : (2 : Int32) = t_ := e2_
        have e3_ : ρ = τ_ := e3_
        subst e1_ e2_ e3_
        have hM : mm_W D d cB L m0 2 ρ A H := hM
        have hW := hM.2.1
        exact W.iret (v := 0) hx hb hr (fun t ht hW9 => ⟨⟨0, (2, ρ), rfl, (by show mp_measureP P ρ x y v er _ _; unfold mp_measureP; rw [if_neg c_10, if_neg c_19, if_pos c_35]; exact ⟨rfl, rfl, rfl⟩), by show mm_W D d cB L m0 _ _ A t.heap; rw [ht]; exact hM⟩, hS.F ht⟩) hS.2.2 dX6_measure_54
      · refine lv_iload hx hb dX6_measure_38 (lv_at hl 4 rfl) ?_
        refine lv_iconst (v := 0) hx hb dX6_measure_40 (by decide) ?_
        refine lv_bipush (v := 20) hx hb dX6_measure_41 (by decide) ?_
        refine mm_pure (As := [.int er, .int 0, .int 20]) ⟨hx, hb, hml, hown, hts⟩ (kX6_in l (er) (0) (20)) (va_cwS 3 hts gX6_measure_X6_in rfl rfl rfl (by decide +kernel) ⟨Nat.le_of_ble_eq_true rfl, Nat.le_of_ble_eq_true rfl⟩) hM hS rfl hl.1 (Nat.le_of_ble_eq_true rfl) dX6_measure_43 ⟨Nat.le_of_ble_eq_true rfl, Nat.le_of_ble_eq_true rfl⟩ rfl (fun r_ H locs hp hM hz hS => ?_)
        subst hp
        have hM : mm_W D d cB L m0 0 ρ A H := hM
        have hW := hM.2.1
        refine lv_if_ne (tgt := 55) hx hb dX6_measure_46 (by decide) (fun c_46 => ?_) (fun c_46 => ?_)
        · have hb9 : P ≤ 10 := hok.1
          obtain ⟨j, hj9, ej9⟩ := mp_in_ix (by omega) c_10
          subst ej9
          have hj : j < P := hj9
          have hclj := nI_clamp (n := j) (by omega)
          obtain ⟨b, hb3, eb⟩ := mp_in_le (n := 5) (by decide) c_19
          subst eb
          have hclb := nI_clamp (n := b) (by omega)
          refine lv_iload_n hx hb dX6_measure_55 rfl (lv_at hl 3 rfl) ?_
          refine lv_iload hx hb dX6_measure_56 (lv_at hl 4 rfl) ?_
          refine lv_isub hx hb dX6_measure_58 ?_
          refine lv_bipush (v := 99) hx hb dX6_measure_59 (by decide) ?_
          refine mm_pure (As := [.int (v - er), .int 99]) ⟨hx, hb, hml, hown, hts⟩ (kX6_held l (v - er) (99)) (va_cwS 2 hts gX6_measure_X6_held rfl rfl rfl (by decide +kernel) ⟨Nat.le_of_ble_eq_true rfl, Nat.le_of_ble_eq_true rfl⟩) hM hS rfl hl.1 (Nat.le_of_ble_eq_true rfl) dX6_measure_61 ⟨Nat.le_of_ble_eq_true rfl, Nat.le_of_ble_eq_true rfl⟩ rfl (fun r_ H locs hp hM hz hS => ?_)
          subst hp
          have hM : mm_W D d cB L m0 0 ρ A H := hM
          have hW := hM.2.1
          refine lv_istore (lv' := [(5, .int (mp_held (v - er) (99 : Int32))), (0, .ref m0), (1, .int (nI j)), (2, .int (nI b)), (3, .int v), (4, .int er)]) hx hb dX6_measure_64 hl (by decide) rfl (fun ls hl => ?_)
          refine lv_iload_n hx hb dX6_measure_66 rfl (lv_at hl 4 rfl) ?_
          refine lv_iload hx hb dX6_measure_67 (lv_at hl 5 rfl) ?_
          refine lv_iadd hx hb dX6_measure_69 ?_
          refine lv_bipush (v := 99) hx hb dX6_measure_70 (by decide) ?_
          refine mm_pure (As := [.int (v + er), .int 99]) ⟨hx, hb, hml, hown, hts⟩ (kX6_held l (v + er) (99)) (va_cwS 2 hts gX6_measure_X6_held rfl rfl rfl (by decide +kernel) ⟨Nat.le_of_ble_eq_true rfl, Nat.le_of_ble_eq_true rfl⟩) hM hS rfl hl.1 (Nat.le_of_ble_eq_true rfl) dX6_measure_72 ⟨Nat.le_of_ble_eq_true rfl, Nat.le_of_ble_eq_true rfl⟩ rfl (fun r_ H locs hp hM hz hS => ?_)
          subst hp
          have hM : mm_W D d cB L m0 0 ρ A H := hM
          have hW := hM.2.1
          refine lv_istore (lv' := [(6, .int (mp_held (v + er) (99 : Int32))), (5, .int (mp_held (v - er) (99 : Int32))), (0, .ref m0), (1, .int (nI j)), (2, .int (nI b)), (3, .int v), (4, .int er)]) hx hb dX6_measure_75 hl (by decide) rfl (fun ls hl => ?_)
          refine lv_iload hx hb dX6_measure_77 (lv_at hl 1 rfl) ?_
          refine lv_aload_n hx hb dX6_measure_79 rfl (lv_at hl 2 rfl) ?_
          refine mm_house hx hb hts (by decide +kernel) hown hKK.1 hM (hts (.fieldLink RX6 10 "WaxrowModel" "house" "LWaxrowModel$House;") (by decide +kernel)) dX6_measure_80 ?_
          have hW := hM.2.1
          refine mh_get hx hb hts (by decide +kernel) hown hKK.1 hW 1 (by decide) (hts (.fieldLink RX6 67 "WaxrowModel$House" "low" "[[I") (by decide +kernel)) rfl (v := .ref (L 2 0)) rfl dX6_measure_83 ?_
          refine lv_iload_n hx hb dX6_measure_86 rfl (lv_at hl 3 rfl) ?_
          refine mh_aald hx hb hKK.2.1 hW 2 j (by decide) (by decide) (by show j < mh_n 2; unfold mh_n; simp; omega) dX6_measure_87 ?_
          refine lv_iload_n hx hb dX6_measure_88 rfl (lv_at hl 4 rfl) ?_
          refine mh_iald hx hb hKK.1 hW 12 j (by decide) (mh_ixR (k := 2) (by decide) (by decide) (by show j < mh_n 2; unfold mh_n; simp; omega)) (i := nI b) (by unfold vp_in; exact nI_in (show b < 6 by omega) (by decide)) dX6_measure_89 ?_
          rw [show (nI b : Int32).toNatClampNeg = b from nI_clamp (by omega)]
          refine va_mmax hx hb (by rw [hml]; exact hl.1.symm) hown (hts (.methodLink RX6 26 Lib.Math.max.name) (by decide +kernel)) (hts (.static Lib.Math.max.name) (by decide +kernel)) (hts (.initialized "java/lang/Math") (by decide +kernel)) (hts (.code Lib.Math.max.name Lib.Math.max.code 2 (some .int)) (by decide +kernel)) (Nat.le_of_ble_eq_true rfl) (Nat.le_of_ble_eq_true rfl) (Nat.zero_le _) (Nat.zero_le _) dX6_measure_90 ?_
          refine lv_iload hx hb dX6_measure_93 (lv_at hl 0 rfl) ?_
          refine lv_aload_n hx hb dX6_measure_95 rfl (lv_at hl 2 rfl) ?_
          refine mm_house hx hb hts (by decide +kernel) hown hKK.1 hM (hts (.fieldLink RX6 10 "WaxrowModel" "house" "LWaxrowModel$House;") (by decide +kernel)) dX6_measure_96 ?_
          have hW := hM.2.1
          refine mh_get hx hb hts (by decide +kernel) hown hKK.1 hW 2 (by decide) (hts (.fieldLink RX6 50 "WaxrowModel$House" "high" "[[I") (by decide +kernel)) rfl (v := .ref (L 3 0)) rfl dX6_measure_99 ?_
          refine lv_iload_n hx hb dX6_measure_102 rfl (lv_at hl 3 rfl) ?_
          refine mh_aald hx hb hKK.2.1 hW 3 j (by decide) (by decide) (by show j < mh_n 3; unfold mh_n; simp; omega) dX6_measure_103 ?_
          refine lv_iload_n hx hb dX6_measure_104 rfl (lv_at hl 4 rfl) ?_
          refine mh_iald hx hb hKK.1 hW 13 j (by decide) (mh_ixR (k := 3) (by decide) (by decide) (by show j < mh_n 3; unfold mh_n; simp; omega)) (i := nI b) (by unfold vp_in; exact nI_in (show b < 6 by omega) (by decide)) dX6_measure_105 ?_
          rw [show (nI b : Int32).toNatClampNeg = b from nI_clamp (by omega)]
          refine va_mmin hx hb (by rw [hml]; exact hl.1.symm) hown (hts (.methodLink RX6 20 Lib.Math.min.name) (by decide +kernel)) (hts (.static Lib.Math.min.name) (by decide +kernel)) (hts (.initialized "java/lang/Math") (by decide +kernel)) (hts (.code Lib.Math.min.name Lib.Math.min.code 2 (some .int)) (by decide +kernel)) (Nat.le_of_ble_eq_true rfl) (Nat.le_of_ble_eq_true rfl) (Nat.zero_le _) (Nat.zero_le _) dX6_measure_106 ?_
          refine lv_icmp_le (tgt := 116) hx hb dX6_measure_109 (by decide) (fun c_109 => ?_) (fun c_109 => ?_)
          · refine lv_iconst (v := 0) hx hb dX6_measure_116 (by decide) ?_
            refine lv_istore (lv' := [(7, .int 0), (6, .int (mp_held (v + er) (99 : Int32))), (5, .int (mp_held (v - er) (99 : Int32))), (0, .ref m0), (1, .int (nI j)), (2, .int (nI b)), (3, .int v), (4, .int er)]) hx hb dX6_measure_117 hl (by decide) rfl (fun ls hl => ?_)
            refine lv_aload_n hx hb dX6_measure_119 rfl (lv_at hl 3 rfl) ?_
            refine mm_house hx hb hts (by decide +kernel) hown hKK.1 hM (hts (.fieldLink RX6 10 "WaxrowModel" "house" "LWaxrowModel$House;") (by decide +kernel)) dX6_measure_120 ?_
            have hW := hM.2.1
            refine mh_get hx hb hts (by decide +kernel) hown hKK.1 hW 0 (by decide) (hts (.fieldLink RX6 46 "WaxrowModel$House" "persons" "[[I") (by decide +kernel)) rfl (v := .ref (L 1 0)) rfl dX6_measure_123 ?_
            refine lv_iload_n hx hb dX6_measure_126 rfl (lv_at hl 4 rfl) ?_
            refine mh_aald hx hb hKK.2.1 hW 1 j (by decide) (by decide) (by show j < mh_n 1; unfold mh_n; simp; omega) dX6_measure_127 ?_
            refine lv_bipush (v := 8) hx hb dX6_measure_128 (by decide) ?_
            refine lv_dup2_11 hx hb dX6_measure_130 rfl rfl ?_
            refine mh_iald hx hb hKK.1 hW 11 j (by decide) (mh_ixR (k := 1) (by decide) (by decide) (by show j < mh_n 1; unfold mh_n; simp; omega)) (i := 8) (by unfold vp_in; decide) dX6_measure_131 ?_
            rw [show (8 : Int32).toNatClampNeg = 8 from by decide]
            refine lv_iload hx hb dX6_measure_132 (lv_at hl 0 rfl) ?_
            refine lv_if_eq (tgt := 141) hx hb dX6_measure_134 (by decide) (fun c_134 => ?_) (fun c_134 => ?_)
            · refine lv_iconst (v := 0) hx hb dX6_measure_141 (by decide) ?_
              refine lv_iadd hx hb dX6_measure_142 ?_
              have hW := hM.2.1
              refine mh_iast hx hb hKK.1 hW hS 11 j (by decide) (mh_ixR (k := 1) (by decide) (by decide) (by show j < mh_n 1; unfold mh_n; simp; omega)) (i := 8) (x := (ρ 11 j 8) + 0) (by unfold vp_in; decide) dX6_measure_143 (fun H locs hW hS hz hq => ?_)
              rw [show (8 : Int32).toNatClampNeg = 8 from by decide] at hW
              have hW : mh_W D d.1 cB L (hs_sg ρ 11 j 8 ((ρ 11 j 8) + 0)) A H := hW
              have hM : mm_W D d cB L m0 0 (hs_sg ρ 11 j 8 ((ρ 11 j 8) + 0)) A H := ⟨hM.1.kept (hq _ (fun z => hM.2.2.2 11 j (mh_ixR (k := 1) (by decide) (by decide) (by show j < mh_n 1; unfold mh_n; simp; omega)) z.symm)), hW, hM.2.2⟩
              refine lv_aload_n hx hb dX6_measure_144 rfl (lv_at hl 3 rfl) ?_
              refine mm_house hx hb hts (by decide +kernel) hown hKK.1 hM (hts (.fieldLink RX6 10 "WaxrowModel" "house" "LWaxrowModel$House;") (by decide +kernel)) dX6_measure_145 ?_
              have hW := hM.2.1
              refine mh_get hx hb hts (by decide +kernel) hown hKK.1 hW 1 (by decide) (hts (.fieldLink RX6 67 "WaxrowModel$House" "low" "[[I") (by decide +kernel)) rfl (v := .ref (L 2 0)) rfl dX6_measure_148 ?_
              refine lv_iload_n hx hb dX6_measure_151 rfl (lv_at hl 4 rfl) ?_
              refine mh_aald hx hb hKK.2.1 hW 2 j (by decide) (by decide) (by show j < mh_n 2; unfold mh_n; simp; omega) dX6_measure_152 ?_
              refine lv_iload_n hx hb dX6_measure_153 rfl (lv_at hl 5 rfl) ?_
              refine lv_iload hx hb dX6_measure_154 (lv_at hl 0 rfl) ?_
              refine lv_if_eq (tgt := 164) hx hb dX6_measure_156 (by decide) (fun c_156 => ?_) (fun c_156 => ?_)
              · refine lv_iload hx hb dX6_measure_164 (lv_at hl 2 rfl) ?_
                refine lv_aload_n hx hb dX6_measure_166 rfl (lv_at hl 3 rfl) ?_
                refine mm_house hx hb hts (by decide +kernel) hown hKK.1 hM (hts (.fieldLink RX6 10 "WaxrowModel" "house" "LWaxrowModel$House;") (by decide +kernel)) dX6_measure_167 ?_
                have hW := hM.2.1
                refine mh_get hx hb hts (by decide +kernel) hown hKK.1 hW 1 (by decide) (hts (.fieldLink RX6 67 "WaxrowModel$House" "low" "[[I") (by decide +kernel)) rfl (v := .ref (L 2 0)) rfl dX6_measure_170 ?_
                refine lv_iload_n hx hb dX6_measure_173 rfl (lv_at hl 4 rfl) ?_
                refine mh_aald hx hb hKK.2.1 hW 2 j (by decide) (by decide) (by show j < mh_n 2; unfold mh_n; simp; omega) dX6_measure_174 ?_
                refine lv_iload_n hx hb dX6_measure_175 rfl (lv_at hl 5 rfl) ?_
                refine mh_iald hx hb hKK.1 hW 12 j (by decide) (mh_ixR (k := 2) (by decide) (by decide) (by show j < mh_n 2; unfold mh_n; simp; omega)) (i := nI b) (by unfold vp_in; exact nI_in (show b < 6 by omega) (by decide)) dX6_measure_176 ?_
                rw [show (nI b : Int32).toNatClampNeg = b from nI_clamp (by omega)]
                rw [show (hs_sg ρ 11 j 8 ((ρ 11 j 8) + 0)) 12 j b = ρ 12 j b from by rw [pc9, if_neg (by omega)]]
                refine va_mmax hx hb (by rw [hml]; exact hl.1.symm) hown (hts (.methodLink RX6 26 Lib.Math.max.name) (by decide +kernel)) (hts (.static Lib.Math.max.name) (by decide +kernel)) (hts (.initialized "java/lang/Math") (by decide +kernel)) (hts (.code Lib.Math.max.name Lib.Math.max.code 2 (some .int)) (by decide +kernel)) (Nat.le_of_ble_eq_true rfl) (Nat.le_of_ble_eq_true rfl) (Nat.zero_le _) (Nat.zero_le _) dX6_measure_177 ?_
                have hW := hM.2.1
                refine mh_iast hx hb hKK.1 hW hS 12 j (by decide) (mh_ixR (k := 2) (by decide) (by decide) (by show j < mh_n 2; unfold mh_n; simp; omega)) (i := nI b) (x := if mp_held (v - er) (99 : Int32) < ρ 12 j b then ρ 12 j b else mp_held (v - er) (99 : Int32)) (by unfold vp_in; exact nI_in (show b < 6 by omega) (by decide)) dX6_measure_180 (fun H locs hW hS hz hq => ?_)
                rw [show (nI b : Int32).toNatClampNeg = b from nI_clamp (by omega)] at hW
                have hW : mh_W D d.1 cB L (hs_sg (hs_sg ρ 11 j 8 ((ρ 11 j 8) + 0)) 12 j b (if mp_held (v - er) (99 : Int32) < ρ 12 j b then ρ 12 j b else mp_held (v - er) (99 : Int32))) A H := hW
                have hM : mm_W D d cB L m0 0 (hs_sg (hs_sg ρ 11 j 8 ((ρ 11 j 8) + 0)) 12 j b (if mp_held (v - er) (99 : Int32) < ρ 12 j b then ρ 12 j b else mp_held (v - er) (99 : Int32))) A H := ⟨hM.1.kept (hq _ (fun z => hM.2.2.2 12 j (mh_ixR (k := 2) (by decide) (by decide) (by show j < mh_n 2; unfold mh_n; simp; omega)) z.symm)), hW, hM.2.2⟩
                refine lv_aload_n hx hb dX6_measure_181 rfl (lv_at hl 3 rfl) ?_
                refine mm_house hx hb hts (by decide +kernel) hown hKK.1 hM (hts (.fieldLink RX6 10 "WaxrowModel" "house" "LWaxrowModel$House;") (by decide +kernel)) dX6_measure_182 ?_
                have hW := hM.2.1
                refine mh_get hx hb hts (by decide +kernel) hown hKK.1 hW 2 (by decide) (hts (.fieldLink RX6 50 "WaxrowModel$House" "high" "[[I") (by decide +kernel)) rfl (v := .ref (L 3 0)) rfl dX6_measure_185 ?_
                refine lv_iload_n hx hb dX6_measure_188 rfl (lv_at hl 4 rfl) ?_
                refine mh_aald hx hb hKK.2.1 hW 3 j (by decide) (by decide) (by show j < mh_n 3; unfold mh_n; simp; omega) dX6_measure_189 ?_
                refine lv_iload_n hx hb dX6_measure_190 rfl (lv_at hl 5 rfl) ?_
                refine lv_iload hx hb dX6_measure_191 (lv_at hl 0 rfl) ?_
                refine lv_if_eq (tgt := 201) hx hb dX6_measure_193 (by decide) (fun c_193 => ?_) (fun c_193 => ?_)
                · refine lv_iload hx hb dX6_measure_201 (lv_at hl 1 rfl) ?_
                  refine lv_aload_n hx hb dX6_measure_203 rfl (lv_at hl 3 rfl) ?_
                  refine mm_house hx hb hts (by decide +kernel) hown hKK.1 hM (hts (.fieldLink RX6 10 "WaxrowModel" "house" "LWaxrowModel$House;") (by decide +kernel)) dX6_measure_204 ?_
                  have hW := hM.2.1
                  refine mh_get hx hb hts (by decide +kernel) hown hKK.1 hW 2 (by decide) (hts (.fieldLink RX6 50 "WaxrowModel$House" "high" "[[I") (by decide +kernel)) rfl (v := .ref (L 3 0)) rfl dX6_measure_207 ?_
                  refine lv_iload_n hx hb dX6_measure_210 rfl (lv_at hl 4 rfl) ?_
                  refine mh_aald hx hb hKK.2.1 hW 3 j (by decide) (by decide) (by show j < mh_n 3; unfold mh_n; simp; omega) dX6_measure_211 ?_
                  refine lv_iload_n hx hb dX6_measure_212 rfl (lv_at hl 5 rfl) ?_
                  refine mh_iald hx hb hKK.1 hW 13 j (by decide) (mh_ixR (k := 3) (by decide) (by decide) (by show j < mh_n 3; unfold mh_n; simp; omega)) (i := nI b) (by unfold vp_in; exact nI_in (show b < 6 by omega) (by decide)) dX6_measure_213 ?_
                  rw [show (nI b : Int32).toNatClampNeg = b from nI_clamp (by omega)]
                  rw [show (hs_sg (hs_sg ρ 11 j 8 ((ρ 11 j 8) + 0)) 12 j b (if mp_held (v - er) (99 : Int32) < ρ 12 j b then ρ 12 j b else mp_held (v - er) (99 : Int32))) 13 j b = ρ 13 j b from by rw [pc9, if_neg (by omega), pc9, if_neg (by omega)]]
                  refine va_mmin hx hb (by rw [hml]; exact hl.1.symm) hown (hts (.methodLink RX6 20 Lib.Math.min.name) (by decide +kernel)) (hts (.static Lib.Math.min.name) (by decide +kernel)) (hts (.initialized "java/lang/Math") (by decide +kernel)) (hts (.code Lib.Math.min.name Lib.Math.min.code 2 (some .int)) (by decide +kernel)) (Nat.le_of_ble_eq_true rfl) (Nat.le_of_ble_eq_true rfl) (Nat.zero_le _) (Nat.zero_le _) dX6_measure_214 ?_
                  have hW := hM.2.1
                  refine mh_iast hx hb hKK.1 hW hS 13 j (by decide) (mh_ixR (k := 3) (by decide) (by decide) (by show j < mh_n 3; unfold mh_n; simp; omega)) (i := nI b) (x := if ρ 13 j b < mp_held (v + er) (99 : Int32) then ρ 13 j b else mp_held (v + er) (99 : Int32)) (by unfold vp_in; exact nI_in (show b < 6 by omega) (by decide)) dX6_measure_217 (fun H locs hW hS hz hq => ?_)
                  rw [show (nI b : Int32).toNatClampNeg = b from nI_clamp (by omega)] at hW
                  have hW : mh_W D d.1 cB L (hs_sg (hs_sg (hs_sg ρ 11 j 8 ((ρ 11 j 8) + 0)) 12 j b (if mp_held (v - er) (99 : Int32) < ρ 12 j b then ρ 12 j b else mp_held (v - er) (99 : Int32))) 13 j b (if ρ 13 j b < mp_held (v + er) (99 : Int32) then ρ 13 j b else mp_held (v + er) (99 : Int32))) A H := hW
                  have hM : mm_W D d cB L m0 0 (hs_sg (hs_sg (hs_sg ρ 11 j 8 ((ρ 11 j 8) + 0)) 12 j b (if mp_held (v - er) (99 : Int32) < ρ 12 j b then ρ 12 j b else mp_held (v - er) (99 : Int32))) 13 j b (if ρ 13 j b < mp_held (v + er) (99 : Int32) then ρ 13 j b else mp_held (v + er) (99 : Int32))) A H := ⟨hM.1.kept (hq _ (fun z => hM.2.2.2 13 j (mh_ixR (k := 3) (by decide) (by decide) (by show j < mh_n 3; unfold mh_n; simp; omega)) z.symm)), hW, hM.2.2⟩
                  refine lv_aload_n hx hb dX6_measure_218 rfl (lv_at hl 3 rfl) ?_
                  refine mm_house hx hb hts (by decide +kernel) hown hKK.1 hM (hts (.fieldLink RX6 10 "WaxrowModel" "house" "LWaxrowModel$House;") (by decide +kernel)) dX6_measure_219 ?_
                  have hW := hM.2.1
                  refine mh_get hx hb hts (by decide +kernel) hown hKK.1 hW 2 (by decide) (hts (.fieldLink RX6 50 "WaxrowModel$House" "high" "[[I") (by decide +kernel)) rfl (v := .ref (L 3 0)) rfl dX6_measure_222 ?_
                  refine lv_iload_n hx hb dX6_measure_225 rfl (lv_at hl 4 rfl) ?_
                  refine mh_aald hx hb hKK.2.1 hW 3 j (by decide) (by decide) (by show j < mh_n 3; unfold mh_n; simp; omega) dX6_measure_226 ?_
                  refine lv_iload_n hx hb dX6_measure_227 rfl (lv_at hl 5 rfl) ?_
                  refine mh_iald hx hb hKK.1 hW 13 j (by decide) (mh_ixR (k := 3) (by decide) (by decide) (by show j < mh_n 3; unfold mh_n; simp; omega)) (i := nI b) (by unfold vp_in; exact nI_in (show b < 6 by omega) (by decide)) dX6_measure_228 ?_
                  rw [show (nI b : Int32).toNatClampNeg = b from nI_clamp (by omega)]
                  refine lv_aload_n hx hb dX6_measure_229 rfl (lv_at hl 3 rfl) ?_
                  refine mm_house hx hb hts (by decide +kernel) hown hKK.1 hM (hts (.fieldLink RX6 10 "WaxrowModel" "house" "LWaxrowModel$House;") (by decide +kernel)) dX6_measure_230 ?_
                  have hW := hM.2.1
                  refine mh_get hx hb hts (by decide +kernel) hown hKK.1 hW 1 (by decide) (hts (.fieldLink RX6 67 "WaxrowModel$House" "low" "[[I") (by decide +kernel)) rfl (v := .ref (L 2 0)) rfl dX6_measure_233 ?_
                  refine lv_iload_n hx hb dX6_measure_236 rfl (lv_at hl 4 rfl) ?_
                  refine mh_aald hx hb hKK.2.1 hW 2 j (by decide) (by decide) (by show j < mh_n 2; unfold mh_n; simp; omega) dX6_measure_237 ?_
                  refine lv_iload_n hx hb dX6_measure_238 rfl (lv_at hl 5 rfl) ?_
                  refine mh_iald hx hb hKK.1 hW 12 j (by decide) (mh_ixR (k := 2) (by decide) (by decide) (by show j < mh_n 2; unfold mh_n; simp; omega)) (i := nI b) (by unfold vp_in; exact nI_in (show b < 6 by omega) (by decide)) dX6_measure_239 ?_
                  rw [show (nI b : Int32).toNatClampNeg = b from nI_clamp (by omega)]
                  refine lv_isub hx hb dX6_measure_240 ?_
                  exact W.iret (v := ((hs_sg (hs_sg (hs_sg ρ 11 j 8 ((ρ 11 j 8) + 0)) 12 j b (if mp_held (v - er) (99 : Int32) < ρ 12 j b then ρ 12 j b else mp_held (v - er) (99 : Int32))) 13 j b (if ρ 13 j b < mp_held (v + er) (99 : Int32) then ρ 13 j b else mp_held (v + er) (99 : Int32))) 13 j b) - ((hs_sg (hs_sg (hs_sg ρ 11 j 8 ((ρ 11 j 8) + 0)) 12 j b (if mp_held (v - er) (99 : Int32) < ρ 12 j b then ρ 12 j b else mp_held (v - er) (99 : Int32))) 13 j b (if ρ 13 j b < mp_held (v + er) (99 : Int32) then ρ 13 j b else mp_held (v + er) (99 : Int32))) 12 j b)) hx hb hr (fun t ht hW9 => ⟨⟨((hs_sg (hs_sg (hs_sg ρ 11 j 8 ((ρ 11 j 8) + 0)) 12 j b (if mp_held (v - er) (99 : Int32) < ρ 12 j b then ρ 12 j b else mp_held (v - er) (99 : Int32))) 13 j b (if ρ 13 j b < mp_held (v + er) (99 : Int32) then ρ 13 j b else mp_held (v + er) (99 : Int32))) 13 j b) - ((hs_sg (hs_sg (hs_sg ρ 11 j 8 ((ρ 11 j 8) + 0)) 12 j b (if mp_held (v - er) (99 : Int32) < ρ 12 j b then ρ 12 j b else mp_held (v - er) (99 : Int32))) 13 j b (if ρ 13 j b < mp_held (v + er) (99 : Int32) then ρ 13 j b else mp_held (v + er) (99 : Int32))) 12 j b), (0, hs_sg (hs_sg (hs_sg ρ 11 j 8 ((ρ 11 j 8) + 0)) 12 j b (if mp_held (v - er) (99 : Int32) < ρ 12 j b then ρ 12 j b else mp_held (v - er) (99 : Int32))) 13 j b (if ρ 13 j b < mp_held (v + er) (99 : Int32) then ρ 13 j b else mp_held (v + er) (99 : Int32))), rfl, (by show mp_measureP P ρ (nI j) (nI b) v er _ _; unfold mp_measureP mp_meas; rw [if_neg c_10, if_neg c_19, if_neg c_35, if_neg c_46, hclj, hclb, if_neg (fun z9 => z9 c_109)]; exact ⟨rfl, rfl, rfl⟩), by show mm_W D d cB L m0 _ _ A t.heap; rw [ht]; exact hM⟩, hS.F ht⟩) hS.2.2 dX6_measure_241
                · exact absurd (by decide +kernel) c_193
              · exact absurd (by decide +kernel) c_156
            · exact absurd (by decide +kernel) c_134
          · refine lv_iconst (v := 1) hx hb dX6_measure_112 (by decide) ?_
            refine lv_goto (tgt := 117) hx hb dX6_measure_113 (by decide) ?_
            refine lv_istore (lv' := [(7, .int 1), (6, .int (mp_held (v + er) (99 : Int32))), (5, .int (mp_held (v - er) (99 : Int32))), (0, .ref m0), (1, .int (nI j)), (2, .int (nI b)), (3, .int v), (4, .int er)]) hx hb dX6_measure_117 hl (by decide) rfl (fun ls hl => ?_)
            refine lv_aload_n hx hb dX6_measure_119 rfl (lv_at hl 3 rfl) ?_
            refine mm_house hx hb hts (by decide +kernel) hown hKK.1 hM (hts (.fieldLink RX6 10 "WaxrowModel" "house" "LWaxrowModel$House;") (by decide +kernel)) dX6_measure_120 ?_
            have hW := hM.2.1
            refine mh_get hx hb hts (by decide +kernel) hown hKK.1 hW 0 (by decide) (hts (.fieldLink RX6 46 "WaxrowModel$House" "persons" "[[I") (by decide +kernel)) rfl (v := .ref (L 1 0)) rfl dX6_measure_123 ?_
            refine lv_iload_n hx hb dX6_measure_126 rfl (lv_at hl 4 rfl) ?_
            refine mh_aald hx hb hKK.2.1 hW 1 j (by decide) (by decide) (by show j < mh_n 1; unfold mh_n; simp; omega) dX6_measure_127 ?_
            refine lv_bipush (v := 8) hx hb dX6_measure_128 (by decide) ?_
            refine lv_dup2_11 hx hb dX6_measure_130 rfl rfl ?_
            refine mh_iald hx hb hKK.1 hW 11 j (by decide) (mh_ixR (k := 1) (by decide) (by decide) (by show j < mh_n 1; unfold mh_n; simp; omega)) (i := 8) (by unfold vp_in; decide) dX6_measure_131 ?_
            rw [show (8 : Int32).toNatClampNeg = 8 from by decide]
            refine lv_iload hx hb dX6_measure_132 (lv_at hl 0 rfl) ?_
            refine lv_if_eq (tgt := 141) hx hb dX6_measure_134 (by decide) (fun c_134 => ?_) (fun c_134 => ?_)
            · exact absurd c_134 (by decide +kernel)
            · refine lv_iconst (v := 1) hx hb dX6_measure_137 (by decide) ?_
              refine lv_goto (tgt := 142) hx hb dX6_measure_138 (by decide) ?_
              refine lv_iadd hx hb dX6_measure_142 ?_
              have hW := hM.2.1
              refine mh_iast hx hb hKK.1 hW hS 11 j (by decide) (mh_ixR (k := 1) (by decide) (by decide) (by show j < mh_n 1; unfold mh_n; simp; omega)) (i := 8) (x := (ρ 11 j 8) + 1) (by unfold vp_in; decide) dX6_measure_143 (fun H locs hW hS hz hq => ?_)
              rw [show (8 : Int32).toNatClampNeg = 8 from by decide] at hW
              have hW : mh_W D d.1 cB L (hs_sg ρ 11 j 8 ((ρ 11 j 8) + 1)) A H := hW
              have hM : mm_W D d cB L m0 0 (hs_sg ρ 11 j 8 ((ρ 11 j 8) + 1)) A H := ⟨hM.1.kept (hq _ (fun z => hM.2.2.2 11 j (mh_ixR (k := 1) (by decide) (by decide) (by show j < mh_n 1; unfold mh_n; simp; omega)) z.symm)), hW, hM.2.2⟩
              refine lv_aload_n hx hb dX6_measure_144 rfl (lv_at hl 3 rfl) ?_
              refine mm_house hx hb hts (by decide +kernel) hown hKK.1 hM (hts (.fieldLink RX6 10 "WaxrowModel" "house" "LWaxrowModel$House;") (by decide +kernel)) dX6_measure_145 ?_
              have hW := hM.2.1
              refine mh_get hx hb hts (by decide +kernel) hown hKK.1 hW 1 (by decide) (hts (.fieldLink RX6 67 "WaxrowModel$House" "low" "[[I") (by decide +kernel)) rfl (v := .ref (L 2 0)) rfl dX6_measure_148 ?_
              refine lv_iload_n hx hb dX6_measure_151 rfl (lv_at hl 4 rfl) ?_
              refine mh_aald hx hb hKK.2.1 hW 2 j (by decide) (by decide) (by show j < mh_n 2; unfold mh_n; simp; omega) dX6_measure_152 ?_
              refine lv_iload_n hx hb dX6_measure_153 rfl (lv_at hl 5 rfl) ?_
              refine lv_iload hx hb dX6_measure_154 (lv_at hl 0 rfl) ?_
              refine lv_if_eq (tgt := 164) hx hb dX6_measure_156 (by decide) (fun c_156 => ?_) (fun c_156 => ?_)
              · exact absurd c_156 (by decide +kernel)
              · refine lv_iload hx hb dX6_measure_159 (lv_at hl 2 rfl) ?_
                refine lv_goto (tgt := 180) hx hb dX6_measure_161 (by decide) ?_
                have hW := hM.2.1
                refine mh_iast hx hb hKK.1 hW hS 12 j (by decide) (mh_ixR (k := 2) (by decide) (by decide) (by show j < mh_n 2; unfold mh_n; simp; omega)) (i := nI b) (x := mp_held (v - er) (99 : Int32)) (by unfold vp_in; exact nI_in (show b < 6 by omega) (by decide)) dX6_measure_180 (fun H locs hW hS hz hq => ?_)
                rw [show (nI b : Int32).toNatClampNeg = b from nI_clamp (by omega)] at hW
                have hW : mh_W D d.1 cB L (hs_sg (hs_sg ρ 11 j 8 ((ρ 11 j 8) + 1)) 12 j b (mp_held (v - er) (99 : Int32))) A H := hW
                have hM : mm_W D d cB L m0 0 (hs_sg (hs_sg ρ 11 j 8 ((ρ 11 j 8) + 1)) 12 j b (mp_held (v - er) (99 : Int32))) A H := ⟨hM.1.kept (hq _ (fun z => hM.2.2.2 12 j (mh_ixR (k := 2) (by decide) (by decide) (by show j < mh_n 2; unfold mh_n; simp; omega)) z.symm)), hW, hM.2.2⟩
                refine lv_aload_n hx hb dX6_measure_181 rfl (lv_at hl 3 rfl) ?_
                refine mm_house hx hb hts (by decide +kernel) hown hKK.1 hM (hts (.fieldLink RX6 10 "WaxrowModel" "house" "LWaxrowModel$House;") (by decide +kernel)) dX6_measure_182 ?_
                have hW := hM.2.1
                refine mh_get hx hb hts (by decide +kernel) hown hKK.1 hW 2 (by decide) (hts (.fieldLink RX6 50 "WaxrowModel$House" "high" "[[I") (by decide +kernel)) rfl (v := .ref (L 3 0)) rfl dX6_measure_185 ?_
                refine lv_iload_n hx hb dX6_measure_188 rfl (lv_at hl 4 rfl) ?_
                refine mh_aald hx hb hKK.2.1 hW 3 j (by decide) (by decide) (by show j < mh_n 3; unfold mh_n; simp; omega) dX6_measure_189 ?_
                refine lv_iload_n hx hb dX6_measure_190 rfl (lv_at hl 5 rfl) ?_
                refine lv_iload hx hb dX6_measure_191 (lv_at hl 0 rfl) ?_
                refine lv_if_eq (tgt := 201) hx hb dX6_measure_193 (by decide) (fun c_193 => ?_) (fun c_193 => ?_)
                · exact absurd c_193 (by decide +kernel)
                · refine lv_iload hx hb dX6_measure_196 (lv_at hl 1 rfl) ?_
                  refine lv_goto (tgt := 217) hx hb dX6_measure_198 (by decide) ?_
                  have hW := hM.2.1
                  refine mh_iast hx hb hKK.1 hW hS 13 j (by decide) (mh_ixR (k := 3) (by decide) (by decide) (by show j < mh_n 3; unfold mh_n; simp; omega)) (i := nI b) (x := mp_held (v + er) (99 : Int32)) (by unfold vp_in; exact nI_in (show b < 6 by omega) (by decide)) dX6_measure_217 (fun H locs hW hS hz hq => ?_)
                  rw [show (nI b : Int32).toNatClampNeg = b from nI_clamp (by omega)] at hW
                  have hW : mh_W D d.1 cB L (hs_sg (hs_sg (hs_sg ρ 11 j 8 ((ρ 11 j 8) + 1)) 12 j b (mp_held (v - er) (99 : Int32))) 13 j b (mp_held (v + er) (99 : Int32))) A H := hW
                  have hM : mm_W D d cB L m0 0 (hs_sg (hs_sg (hs_sg ρ 11 j 8 ((ρ 11 j 8) + 1)) 12 j b (mp_held (v - er) (99 : Int32))) 13 j b (mp_held (v + er) (99 : Int32))) A H := ⟨hM.1.kept (hq _ (fun z => hM.2.2.2 13 j (mh_ixR (k := 3) (by decide) (by decide) (by show j < mh_n 3; unfold mh_n; simp; omega)) z.symm)), hW, hM.2.2⟩
                  refine lv_aload_n hx hb dX6_measure_218 rfl (lv_at hl 3 rfl) ?_
                  refine mm_house hx hb hts (by decide +kernel) hown hKK.1 hM (hts (.fieldLink RX6 10 "WaxrowModel" "house" "LWaxrowModel$House;") (by decide +kernel)) dX6_measure_219 ?_
                  have hW := hM.2.1
                  refine mh_get hx hb hts (by decide +kernel) hown hKK.1 hW 2 (by decide) (hts (.fieldLink RX6 50 "WaxrowModel$House" "high" "[[I") (by decide +kernel)) rfl (v := .ref (L 3 0)) rfl dX6_measure_222 ?_
                  refine lv_iload_n hx hb dX6_measure_225 rfl (lv_at hl 4 rfl) ?_
                  refine mh_aald hx hb hKK.2.1 hW 3 j (by decide) (by decide) (by show j < mh_n 3; unfold mh_n; simp; omega) dX6_measure_226 ?_
                  refine lv_iload_n hx hb dX6_measure_227 rfl (lv_at hl 5 rfl) ?_
                  refine mh_iald hx hb hKK.1 hW 13 j (by decide) (mh_ixR (k := 3) (by decide) (by decide) (by show j < mh_n 3; unfold mh_n; simp; omega)) (i := nI b) (by unfold vp_in; exact nI_in (show b < 6 by omega) (by decide)) dX6_measure_228 ?_
                  rw [show (nI b : Int32).toNatClampNeg = b from nI_clamp (by omega)]
                  refine lv_aload_n hx hb dX6_measure_229 rfl (lv_at hl 3 rfl) ?_
                  refine mm_house hx hb hts (by decide +kernel) hown hKK.1 hM (hts (.fieldLink RX6 10 "WaxrowModel" "house" "LWaxrowModel$House;") (by decide +kernel)) dX6_measure_230 ?_
                  have hW := hM.2.1
                  refine mh_get hx hb hts (by decide +kernel) hown hKK.1 hW 1 (by decide) (hts (.fieldLink RX6 67 "WaxrowModel$House" "low" "[[I") (by decide +kernel)) rfl (v := .ref (L 2 0)) rfl dX6_measure_233 ?_
                  refine lv_iload_n hx hb dX6_measure_236 rfl (lv_at hl 4 rfl) ?_
                  refine mh_aald hx hb hKK.2.1 hW 2 j (by decide) (by decide) (by show j < mh_n 2; unfold mh_n; simp; omega) dX6_measure_237 ?_
                  refine lv_iload_n hx hb dX6_measure_238 rfl (lv_at hl 5 rfl) ?_
                  refine mh_iald hx hb hKK.1 hW 12 j (by decide) (mh_ixR (k := 2) (by decide) (by decide) (by show j < mh_n 2; unfold mh_n; simp; omega)) (i := nI b) (by unfold vp_in; exact nI_in (show b < 6 by omega) (by decide)) dX6_measure_239 ?_
                  rw [show (nI b : Int32).toNatClampNeg = b from nI_clamp (by omega)]
                  refine lv_isub hx hb dX6_measure_240 ?_
                  exact W.iret (v := ((hs_sg (hs_sg (hs_sg ρ 11 j 8 ((ρ 11 j 8) + 1)) 12 j b (mp_held (v - er) (99 : Int32))) 13 j b (mp_held (v + er) (99 : Int32))) 13 j b) - ((hs_sg (hs_sg (hs_sg ρ 11 j 8 ((ρ 11 j 8) + 1)) 12 j b (mp_held (v - er) (99 : Int32))) 13 j b (mp_held (v + er) (99 : Int32))) 12 j b)) hx hb hr (fun t ht hW9 => ⟨⟨((hs_sg (hs_sg (hs_sg ρ 11 j 8 ((ρ 11 j 8) + 1)) 12 j b (mp_held (v - er) (99 : Int32))) 13 j b (mp_held (v + er) (99 : Int32))) 13 j b) - ((hs_sg (hs_sg (hs_sg ρ 11 j 8 ((ρ 11 j 8) + 1)) 12 j b (mp_held (v - er) (99 : Int32))) 13 j b (mp_held (v + er) (99 : Int32))) 12 j b), (0, hs_sg (hs_sg (hs_sg ρ 11 j 8 ((ρ 11 j 8) + 1)) 12 j b (mp_held (v - er) (99 : Int32))) 13 j b (mp_held (v + er) (99 : Int32))), rfl, (by show mp_measureP P ρ (nI j) (nI b) v er _ _; unfold mp_measureP mp_meas; rw [if_neg c_10, if_neg c_19, if_neg c_35, if_neg c_46, hclj, hclb, if_pos (show mp_clash ρ j b v er from c_109)]; exact ⟨rfl, rfl, rfl⟩), by show mm_W D d cB L m0 _ _ A t.heap; rw [ht]; exact hM⟩, hS.F ht⟩) hS.2.2 dX6_measure_241
        · refine lv_aload_n hx hb dX6_measure_49 rfl (lv_at hl 0 rfl) ?_
          refine lv_iconst (v := 2) hx hb dX6_measure_50 (by decide) ?_
          refine mm_calli (As := [.int 2]) ⟨hx, hb, hml, hown, hts⟩ (kX6_no l D d cB L m0 (0 : Int32) ρ A H.size 2) (cwV 1 hts gX6_measure_X6_no rfl rfl rfl (by decide +kernel) ⟨Nat.le_of_ble_eq_true rfl, Nat.le_of_ble_eq_true rfl⟩) hKK hM hS rfl hl.1 (Nat.le_of_ble_eq_true rfl) dX6_measure_51 ⟨Nat.le_of_ble_eq_true rfl, Nat.le_of_ble_eq_true rfl⟩ rfl (fun r_ X_ H locs hp hM hz hS => ?_)
          obtain ⟨t_, τ_⟩ := X_
          obtain ⟨e1_, e2_, e3_⟩ := hp
          have e2_ : (2 : Int32) = t_ := e2_
          have e3_ : ρ = τ_ := e3_
          subst e1_ e2_ e3_
          have hM : mm_W D d cB L m0 2 ρ A H := hM
          have hW := hM.2.1
          exact W.iret (v := 0) hx hb hr (fun t ht hW9 => ⟨⟨0, (2, ρ), rfl, (by show mp_measureP P ρ x y v er _ _; unfold mp_measureP; rw [if_neg c_10, if_neg c_19, if_neg c_35, if_pos c_46]; exact ⟨rfl, rfl, rfl⟩), by show mm_W D d cB L m0 _ _ A t.heap; rw [ht]; exact hM⟩, hS.F ht⟩) hS.2.2 dX6_measure_54
    · refine lv_aload_n hx hb dX6_measure_22 rfl (lv_at hl 0 rfl) ?_
      refine lv_iconst (v := 1) hx hb dX6_measure_23 (by decide) ?_
      refine mm_calli (As := [.int 1]) ⟨hx, hb, hml, hown, hts⟩ (kX6_no l D d cB L m0 (0 : Int32) ρ A H.size 1) (cwV 1 hts gX6_measure_X6_no rfl rfl rfl (by decide +kernel) ⟨Nat.le_of_ble_eq_true rfl, Nat.le_of_ble_eq_true rfl⟩) hKK hM hS rfl hl.1 (Nat.le_of_ble_eq_true rfl) dX6_measure_24 ⟨Nat.le_of_ble_eq_true rfl, Nat.le_of_ble_eq_true rfl⟩ rfl (fun r_ X_ H locs hp hM hz hS => ?_)
      obtain ⟨t_, τ_⟩ := X_
      obtain ⟨e1_, e2_, e3_⟩ := hp
      have e2_ : (1 : Int32) = t_ := e2_
      have e3_ : ρ = τ_ := e3_
      subst e1_ e2_ e3_
      have hM : mm_W D d cB L m0 1 ρ A H := hM
      have hW := hM.2.1
      exact W.iret (v := 0) hx hb hr (fun t ht hW9 => ⟨⟨0, (1, ρ), rfl, (by show mp_measureP P ρ x y v er _ _; unfold mp_measureP; rw [if_neg c_10, if_pos c_19]; exact ⟨rfl, rfl, rfl⟩), by show mm_W D d cB L m0 _ _ A t.heap; rw [ht]; exact hM⟩, hS.F ht⟩) hS.2.2 dX6_measure_27
