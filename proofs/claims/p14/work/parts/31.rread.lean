/-! THE REFERENCE'S READERS -/
def mp_in (k lo hi : Int32) : Int32 := if k < lo then 0 else if hi < k then 0 else 1
def mp_max (x y : Int32) : Int32 := if x < y then y else x
def mp_min (x y : Int32) : Int32 := if y < x then y else x
def mp_held (k hi : Int32) : Int32 := mp_max 0 (mp_min hi k)
def mp_abs (x : Int32) : Int32 := if 0 ≤ x then x else 0 - x
def mp_width (ρ : hs_St) (q : Nat) : Nat → Int32
  | 0 => 0
  | n + 1 => mp_width ρ q n + (ρ 13 q n - ρ 12 q n)
def mp_doubt (ρ : hs_St) (q : Nat) : Int32 := mp_width ρ q 6 / 6
def mp_height (ρ : hs_St) (q : Nat) : Int32 := ρ 12 q 5 + ρ 13 q 5
def mp_isDone (ρ : hs_St) (f : Nat) : Int32 := if ρ 14 f 2 = 6 then (if ρ 14 f 7 = 7 then 0 else 1) else 0
def mp_isShown (ρ : hs_St) (f : Nat) : Int32 := if 5 ≤ ρ 14 f 7 then 0 else 1
def mp_less (ρ : hs_St) (f : Nat) : Int32 := ρ 14 f 5 + ρ 14 f 6 / 2 + (if ρ 14 f 0 = ρ 14 f 1 then 0 else mp_abs (mp_height ρ (ρ 14 f 0).toNatClampNeg - mp_height ρ (ρ 14 f 1).toNatClampNeg) / 4)
def mp_like (ρ : hs_St) (f : Nat) : Int32 := if mp_isDone ρ f = 0 then 0 else mp_max 0 (100 - mp_less ρ f)
def mp_draw (ρ : hs_St) (f : Nat) : Int32 := if mp_isShown ρ f = 0 then 0 else ρ 11 (ρ 14 f 0).toNatClampNeg 0 * mp_like ρ f / 100
def mp_draws (ρ : hs_St) (x y : Int32) : Nat → Int32
  | 0 => 0
  | n + 1 => mp_draws ρ x y n + (if mp_in (ρ 14 n 7) x y = 0 then 0 else mp_draw ρ n)
def mp_hands (ρ : hs_St) : Nat → Int32
  | 0 => 0
  | n + 1 => mp_hands ρ n + ρ 14 n 4
/-- what every call keeps of the reference's house -/
def mh_ok (P F R : Nat) (ρ : hs_St) : Prop := P ≤ 10 ∧ F ≤ 8 ∧ R ≤ 5 ∧ ρ 0 0 6 = nI P ∧ ρ 0 0 7 = nI F ∧ ρ 0 0 8 = nI R ∧ ∀ f, f < F → (∃ h, h < P ∧ ρ 14 f 0 = nI h) ∧ (∃ h, h < P ∧ ρ 14 f 1 = nI h) ∧ (∃ j, j ≤ 6 ∧ ρ 14 f 2 = nI j) ∧ ((∃ r, r < R ∧ ρ 14 f 7 = nI r) ∨ ρ 14 f 7 = 5 ∨ ρ 14 f 7 = 6 ∨ ρ 14 f 7 = 7) ∧ ∃ a, a < 3 ∧ ρ 14 f 9 = nI a
set_option maxHeartbeats 4000000 in
set_option maxRecDepth 100000 in
/-- the reference: X6_in -/
theorem kX6_in (l : Launch) (k lo hi : Int32) : Met l yX6_in wsX6_in ({ frames := 0, cells := 0, slots := 0, locals := 0 } : Room) (va_Pc [.int k, .int lo, .int hi] (fun _ => True)) (va_Qi (fun r (_ : Unit) => r = mp_in k lo hi) (fun _ _ => True) (fun _ => False)) 0 0 (fun _ => False) := by
  refine Met.ofW (cc := cX6_in) (maxL := 3) (ret := (some .boolean)) (by decide) rfl ?_
  intro p e s m args below meth c0 s₁ B hml hv
  obtain ⟨rfl, -⟩ := hv
  have hx := B.exec
  have hb := B.bytes
  have hr := B.returns
  have hts := atoms_spec (ws := wsX6_in) B.pre
  have hown : s.vm.findClass RX6 = some m.cls := findClass_of_methodNamed B.named
  have hlocks := B.notSynchronized
  have hS : va_S (fun _ => False) s.heap s.heap [] := va_S.rf
  have hl := lv_entry ([.int k, .int lo, .int hi]) (n := 3) (Nat.le_of_ble_eq_true rfl)
  rw [lg_entry_eq]
  generalize (lg_sl ([.int k, .int lo, .int hi]) ++ List.replicate (3 - (lg_sl ([.int k, .int lo, .int hi])).length) Slot.unset).toArray = ls at hl ⊢
  have hl : lv_has ls 3 [(0, .int k), (1, .int lo), (2, .int hi)] := hl
  refine lv_iload_n hx hb dX6_in_0 rfl (lv_at hl 0 rfl) ?_
  refine lv_iload_n hx hb dX6_in_1 rfl (lv_at hl 1 rfl) ?_
  refine lv_icmp_lt (tgt := 14) hx hb dX6_in_2 (by decide) (fun c_2 => ?_) (fun c_2 => ?_)
  · refine lv_iconst (v := 0) hx hb dX6_in_14 (by decide) ?_
    exact W.zret (v := 0) (ty := .boolean) hx hb hr rfl (fun t ht hW9 => ⟨⟨0, (), rfl, (by unfold mp_in; rw [if_pos c_2]), trivial⟩, hS.F ht⟩) hS.2.2 dX6_in_15
  · refine lv_iload_n hx hb dX6_in_5 rfl (lv_at hl 0 rfl) ?_
    refine lv_iload_n hx hb dX6_in_6 rfl (lv_at hl 2 rfl) ?_
    refine lv_icmp_gt (tgt := 14) hx hb dX6_in_7 (by decide) (fun c_7 => ?_) (fun c_7 => ?_)
    · refine lv_iconst (v := 0) hx hb dX6_in_14 (by decide) ?_
      exact W.zret (v := 0) (ty := .boolean) hx hb hr rfl (fun t ht hW9 => ⟨⟨0, (), rfl, (by unfold mp_in; rw [if_neg c_2, if_pos c_7]), trivial⟩, hS.F ht⟩) hS.2.2 dX6_in_15
    · refine lv_iconst (v := 1) hx hb dX6_in_10 (by decide) ?_
      refine lv_goto (tgt := 15) hx hb dX6_in_11 (by decide) ?_
      exact W.zret (v := 1) (ty := .boolean) hx hb hr rfl (fun t ht hW9 => ⟨⟨1, (), rfl, (by unfold mp_in; rw [if_neg c_2, if_neg c_7]), trivial⟩, hS.F ht⟩) hS.2.2 dX6_in_15
set_option maxHeartbeats 4000000 in
set_option maxRecDepth 100000 in
/-- the reference: X6_held -/
theorem kX6_held (l : Launch) (k hi : Int32) : Met l yX6_held wsX6_held ({ frames := 1, cells := 0, slots := 0, locals := 20 } : Room) (va_Pc [.int k, .int hi] (fun _ => True)) (va_Qi (fun r (_ : Unit) => r = mp_held k hi) (fun _ _ => True) (fun _ => False)) 0 0 (fun _ => False) := by
  refine Met.ofW (cc := cX6_held) (maxL := 2) (ret := (some .int)) (by decide) rfl ?_
  intro p e s m args below meth c0 s₁ B hml hv
  obtain ⟨rfl, -⟩ := hv
  have hx := B.exec
  have hb := B.bytes
  have hr := B.returns
  have hts := atoms_spec (ws := wsX6_held) B.pre
  have hown : s.vm.findClass RX6 = some m.cls := findClass_of_methodNamed B.named
  have hlocks := B.notSynchronized
  have hS : va_S (fun _ => False) s.heap s.heap [] := va_S.rf
  have hl := lv_entry ([.int k, .int hi]) (n := 2) (Nat.le_of_ble_eq_true rfl)
  rw [lg_entry_eq]
  generalize (lg_sl ([.int k, .int hi]) ++ List.replicate (2 - (lg_sl ([.int k, .int hi])).length) Slot.unset).toArray = ls at hl ⊢
  have hl : lv_has ls 2 [(0, .int k), (1, .int hi)] := hl
  refine lv_iconst (v := 0) hx hb dX6_held_0 (by decide) ?_
  refine lv_iload_n hx hb dX6_held_1 rfl (lv_at hl 1 rfl) ?_
  refine lv_iload_n hx hb dX6_held_2 rfl (lv_at hl 0 rfl) ?_
  refine va_mmin hx hb (by rw [hml]; exact hl.1.symm) hown (hts (.methodLink RX6 20 Lib.Math.min.name) (by decide +kernel)) (hts (.static Lib.Math.min.name) (by decide +kernel)) (hts (.initialized "java/lang/Math") (by decide +kernel)) (hts (.code Lib.Math.min.name Lib.Math.min.code 2 (some .int)) (by decide +kernel)) (Nat.le_of_ble_eq_true rfl) (Nat.le_of_ble_eq_true rfl) (Nat.zero_le _) (Nat.zero_le _) dX6_held_3 ?_
  refine va_mmax hx hb (by rw [hml]; exact hl.1.symm) hown (hts (.methodLink RX6 26 Lib.Math.max.name) (by decide +kernel)) (hts (.static Lib.Math.max.name) (by decide +kernel)) (hts (.initialized "java/lang/Math") (by decide +kernel)) (hts (.code Lib.Math.max.name Lib.Math.max.code 2 (some .int)) (by decide +kernel)) (Nat.le_of_ble_eq_true rfl) (Nat.le_of_ble_eq_true rfl) (Nat.zero_le _) (Nat.zero_le _) dX6_held_6 ?_
  exact W.iret (v := if 0 < if k < hi then k else hi then if k < hi then k else hi else 0) hx hb hr (fun t ht hW9 => ⟨⟨if 0 < if k < hi then k else hi then if k < hi then k else hi else 0, (), rfl, rfl, trivial⟩, hS.F ht⟩) hS.2.2 dX6_held_9
set_option maxHeartbeats 4000000 in
set_option maxRecDepth 100000 in
/-- the reference: X5_doubt: the loop at 4 -/
theorem lkX5_doubt (l : Launch) (D : va_G) (d : hs_Dm) (cB : ClassId) (L : hs_Lo) (ρ : hs_St) (A : Nat → Prop) (sz : Nat) (q : Nat) (hq : q < 10) {p : Program} {e : Env} {s : State} {m : MethodId} {args : Array Value} {below : List Frame} {meth : Method} {c0 : Code} (hx : p.tables.exec = Jvm.exec) (hb : c0.code = cX5_doubt) (hr : meth.sig.returnType = (some .int)) (hts : ∀ w ∈ wsX5_doubt, w.before args s = true) (hown : s.vm.findClass RX5 = some m.cls) (hlocks : meth.locks = false) (hml : c0.maxLocals = 4) (hKK : mh_K D d cB s) : ∀ (kk n : Nat), n + kk = 6 → ∀ (H : Heap) (locs : List Loc), mh_W D d.1 cB L ρ A H → va_S A s.heap H locs → ∀ ls : Array Slot, lv_has ls 4 [(3, .int (nI n)), (2, .int (mp_width ρ q n)), (0, .ref (L 0 0)), (1, .int (nI q))] → W p l e ({ frames := 0, cells := 0, slots := 0, locals := 0 } : Room) s m args below meth c0 H locs 0 0 (MQ below (va_Qi (fun r τ => mp_doubt ρ q = r ∧ ρ = τ) (fun τ t => mh_W D d.1 cB L τ A t.heap) A) args s 0 0 A) (F0 m 4 ls []) := by
  intro kk
  induction kk with
  | zero =>
    intro n hn H locs hW hS ls hl
    have hnN : n = 6 := by omega
    refine lv_iload_n hx hb dX5_doubt_4 rfl (lv_at hl 0 rfl) ?_
    refine lv_bipush (v := 6) hx hb dX5_doubt_5 (by decide) ?_
    refine lv_icmp_ge (tgt := 36) hx hb dX5_doubt_7 (by decide) (fun c_7 => ?_) (fun c_7 => ?_)
    · refine lv_iload_n hx hb dX5_doubt_36 rfl (lv_at hl 1 rfl) ?_
      refine lv_bipush (v := 6) hx hb dX5_doubt_37 (by decide) ?_
      refine lv_idiv hx hb dX5_doubt_39 (by decide) ?_
      exact W.iret (v := (mp_width ρ q n) / 6) hx hb hr (fun t ht hW9 => ⟨⟨(mp_width ρ q n) / 6, ρ, rfl, ⟨by rw [hnN]; rfl, rfl⟩, by show mh_W D d.1 cB L _ A t.heap; rw [ht]; exact hW⟩, hS.F ht⟩) hS.2.2 dX5_doubt_40
    · exact absurd (by rw [hnN]; exact nI_le (a := 6) (b := 6) (Nat.le_refl _) (by decide)) c_7
  | succ kk ih =>
    intro n hn H locs hW hS ls hl
    have hnN : n < 6 := by omega
    refine lv_iload_n hx hb dX5_doubt_4 rfl (lv_at hl 0 rfl) ?_
    refine lv_bipush (v := 6) hx hb dX5_doubt_5 (by decide) ?_
    refine lv_icmp_ge (tgt := 36) hx hb dX5_doubt_7 (by decide) (fun c_7 => ?_) (fun c_7 => ?_)
    · exact absurd c_7 (nI_ge (b := 6) hnN (by decide))
    · refine lv_iload_n hx hb dX5_doubt_10 rfl (lv_at hl 1 rfl) ?_
      refine lv_aload_n hx hb dX5_doubt_11 rfl (lv_at hl 2 rfl) ?_
      refine mh_get hx hb hts (by decide +kernel) hown hKK.1 hW 2 (by decide) (hts (.fieldLink RX5 19 "WaxrowModel$House" "high" "[[I") (by decide +kernel)) rfl (v := .ref (L 3 0)) rfl dX5_doubt_12 ?_
      refine lv_iload_n hx hb dX5_doubt_15 rfl (lv_at hl 3 rfl) ?_
      refine mh_aald hx hb hKK.2.1 hW 3 q (by decide) (by decide) (by show q < mh_n 3; unfold mh_n; simp; omega) dX5_doubt_16 ?_
      refine lv_iload_n hx hb dX5_doubt_17 rfl (lv_at hl 0 rfl) ?_
      refine mh_iald hx hb hKK.1 hW 13 q (by decide) (mh_ixR (k := 3) (by decide) (by decide) (by show q < mh_n 3; unfold mh_n; simp; omega)) (i := nI n) (by unfold vp_in; exact nI_in (by show n < 6; omega) (by decide)) dX5_doubt_18 ?_
      rw [show (nI n : Int32).toNatClampNeg = n from nI_clamp (by omega)]
      refine lv_aload_n hx hb dX5_doubt_19 rfl (lv_at hl 2 rfl) ?_
      refine mh_get hx hb hts (by decide +kernel) hown hKK.1 hW 1 (by decide) (hts (.fieldLink RX5 16 "WaxrowModel$House" "low" "[[I") (by decide +kernel)) rfl (v := .ref (L 2 0)) rfl dX5_doubt_20 ?_
      refine lv_iload_n hx hb dX5_doubt_23 rfl (lv_at hl 3 rfl) ?_
      refine mh_aald hx hb hKK.2.1 hW 2 q (by decide) (by decide) (by show q < mh_n 2; unfold mh_n; simp; omega) dX5_doubt_24 ?_
      refine lv_iload_n hx hb dX5_doubt_25 rfl (lv_at hl 0 rfl) ?_
      refine mh_iald hx hb hKK.1 hW 12 q (by decide) (mh_ixR (k := 2) (by decide) (by decide) (by show q < mh_n 2; unfold mh_n; simp; omega)) (i := nI n) (by unfold vp_in; exact nI_in (by show n < 6; omega) (by decide)) dX5_doubt_26 ?_
      rw [show (nI n : Int32).toNatClampNeg = n from nI_clamp (by omega)]
      refine lv_isub hx hb dX5_doubt_27 ?_
      refine lv_iadd hx hb dX5_doubt_28 ?_
      refine lv_istore_n (lv' := [(2, .int ((mp_width ρ q n) + ((ρ 13 q n) - (ρ 12 q n)))), (3, .int (nI n)), (0, .ref (L 0 0)), (1, .int (nI q))]) hx hb dX5_doubt_29 rfl hl (by decide) rfl (fun ls hl => ?_)
      refine lv_iinc (v := nI (n + 1)) (lv' := [(3, .int (nI (n + 1))), (2, .int ((mp_width ρ q n) + ((ρ 13 q n) - (ρ 12 q n)))), (0, .ref (L 0 0)), (1, .int (nI q))]) hx hb dX5_doubt_30 hl (k := 1) rfl (nI_succ _).symm (by decide) rfl (fun ls hl => ?_)
      refine lv_goto (tgt := 4) hx hb dX5_doubt_33 (by decide) ?_
      exact ih (n + 1) (by omega) _ _ hW hS ls (lv_sub hl [0, 1, 2, 3] rfl)
set_option maxHeartbeats 4000000 in
set_option maxRecDepth 100000 in
/-- the reference: X5_doubt -/
theorem kX5_doubt (l : Launch) (D : va_G) (d : hs_Dm) (cB : ClassId) (L : hs_Lo) (ρ : hs_St) (A : Nat → Prop) (sz : Nat) (q : Nat) (hq : q < 10) : mh_Mi l yX5_doubt wsX5_doubt ({ frames := 0, cells := 0, slots := 0, locals := 0 } : Room) D d cB L ρ A sz [.ref (L 0 0), .int (nI q)] (fun r τ => mp_doubt ρ q = r ∧ ρ = τ) 0 0 := by
  refine Met.ofW (cc := cX5_doubt) (maxL := 4) (ret := (some .int)) (by decide) rfl ?_
  intro p e s m args below meth c0 s₁ B hml hv
  obtain ⟨rfl, hsz, hW, hKK⟩ := hv
  have hx := B.exec
  have hb := B.bytes
  have hr := B.returns
  have hts := atoms_spec (ws := wsX5_doubt) B.pre
  have hown : s.vm.findClass RX5 = some m.cls := findClass_of_methodNamed B.named
  have hlocks := B.notSynchronized
  have hS : va_S A s.heap s.heap [] := va_S.rf
  have hl := lv_entry ([.ref (L 0 0), .int (nI q)]) (n := 4) (Nat.le_of_ble_eq_true rfl)
  rw [lg_entry_eq]
  generalize (lg_sl ([.ref (L 0 0), .int (nI q)]) ++ List.replicate (4 - (lg_sl ([.ref (L 0 0), .int (nI q)])).length) Slot.unset).toArray = ls at hl ⊢
  have hl : lv_has ls 4 [(0, .ref (L 0 0)), (1, .int (nI q))] := hl
  refine lv_iconst (v := 0) hx hb dX5_doubt_0 (by decide) ?_
  refine lv_istore_n (lv' := [(2, .int 0), (0, .ref (L 0 0)), (1, .int (nI q))]) hx hb dX5_doubt_1 rfl hl (by decide) rfl (fun ls hl => ?_)
  refine lv_iconst (v := 0) hx hb dX5_doubt_2 (by decide) ?_
  refine lv_istore_n (lv' := [(3, .int 0), (2, .int 0), (0, .ref (L 0 0)), (1, .int (nI q))]) hx hb dX5_doubt_3 rfl hl (by decide) rfl (fun ls hl => ?_)
  exact lkX5_doubt l D d cB L ρ A sz q hq hx hb hr hts hown hlocks hml hKK 6 0 (by omega) _ _ hW hS ls (lv_sub hl [0, 1, 2, 3] rfl)
set_option maxHeartbeats 4000000 in
set_option maxRecDepth 100000 in
/-- the reference: X5_height -/
theorem kX5_height (l : Launch) (D : va_G) (d : hs_Dm) (cB : ClassId) (L : hs_Lo) (ρ : hs_St) (A : Nat → Prop) (sz : Nat) (q : Nat) (hq : q < 10) : mh_Mi l yX5_height wsX5_height ({ frames := 0, cells := 0, slots := 0, locals := 0 } : Room) D d cB L ρ A sz [.ref (L 0 0), .int (nI q)] (fun r τ => mp_height ρ q = r ∧ ρ = τ) 0 0 := by
  refine Met.ofW (cc := cX5_height) (maxL := 2) (ret := (some .int)) (by decide) rfl ?_
  intro p e s m args below meth c0 s₁ B hml hv
  obtain ⟨rfl, hsz, hW, hKK⟩ := hv
  have hx := B.exec
  have hb := B.bytes
  have hr := B.returns
  have hts := atoms_spec (ws := wsX5_height) B.pre
  have hown : s.vm.findClass RX5 = some m.cls := findClass_of_methodNamed B.named
  have hlocks := B.notSynchronized
  have hS : va_S A s.heap s.heap [] := va_S.rf
  have hl := lv_entry ([.ref (L 0 0), .int (nI q)]) (n := 2) (Nat.le_of_ble_eq_true rfl)
  rw [lg_entry_eq]
  generalize (lg_sl ([.ref (L 0 0), .int (nI q)]) ++ List.replicate (2 - (lg_sl ([.ref (L 0 0), .int (nI q)])).length) Slot.unset).toArray = ls at hl ⊢
  have hl : lv_has ls 2 [(0, .ref (L 0 0)), (1, .int (nI q))] := hl
  refine lv_aload_n hx hb dX5_height_0 rfl (lv_at hl 0 rfl) ?_
  refine mh_get hx hb hts (by decide +kernel) hown hKK.1 hW 1 (by decide) (hts (.fieldLink RX5 16 "WaxrowModel$House" "low" "[[I") (by decide +kernel)) rfl (v := .ref (L 2 0)) rfl dX5_height_1 ?_
  refine lv_iload_n hx hb dX5_height_4 rfl (lv_at hl 1 rfl) ?_
  refine mh_aald hx hb hKK.2.1 hW 2 q (by decide) (by decide) (by show q < mh_n 2; unfold mh_n; simp; omega) dX5_height_5 ?_
  refine lv_iconst (v := 5) hx hb dX5_height_6 (by decide) ?_
  refine mh_iald hx hb hKK.1 hW 12 q (by decide) (mh_ixR (k := 2) (by decide) (by decide) (by show q < mh_n 2; unfold mh_n; simp; omega)) (i := 5) (by unfold vp_in; decide) dX5_height_7 ?_
  rw [show (5 : Int32).toNatClampNeg = 5 from by decide]
  refine lv_aload_n hx hb dX5_height_8 rfl (lv_at hl 0 rfl) ?_
  refine mh_get hx hb hts (by decide +kernel) hown hKK.1 hW 2 (by decide) (hts (.fieldLink RX5 19 "WaxrowModel$House" "high" "[[I") (by decide +kernel)) rfl (v := .ref (L 3 0)) rfl dX5_height_9 ?_
  refine lv_iload_n hx hb dX5_height_12 rfl (lv_at hl 1 rfl) ?_
  refine mh_aald hx hb hKK.2.1 hW 3 q (by decide) (by decide) (by show q < mh_n 3; unfold mh_n; simp; omega) dX5_height_13 ?_
  refine lv_iconst (v := 5) hx hb dX5_height_14 (by decide) ?_
  refine mh_iald hx hb hKK.1 hW 13 q (by decide) (mh_ixR (k := 3) (by decide) (by decide) (by show q < mh_n 3; unfold mh_n; simp; omega)) (i := 5) (by unfold vp_in; decide) dX5_height_15 ?_
  rw [show (5 : Int32).toNatClampNeg = 5 from by decide]
  refine lv_iadd hx hb dX5_height_16 ?_
  exact W.iret (v := (ρ 12 q 5) + (ρ 13 q 5)) hx hb hr (fun t ht hW9 => ⟨⟨(ρ 12 q 5) + (ρ 13 q 5), ρ, rfl, ⟨rfl, rfl⟩, by show mh_W D d.1 cB L _ A t.heap; rw [ht]; exact hW⟩, hS.F ht⟩) hS.2.2 dX5_height_17
set_option maxHeartbeats 4000000 in
set_option maxRecDepth 100000 in
/-- the reference: X5_isDone -/
theorem kX5_isDone (l : Launch) (D : va_G) (d : hs_Dm) (cB : ClassId) (L : hs_Lo) (ρ : hs_St) (A : Nat → Prop) (sz : Nat) (f : Nat) (hf : f < 8) : mh_Mi l yX5_isDone wsX5_isDone ({ frames := 0, cells := 0, slots := 0, locals := 0 } : Room) D d cB L ρ A sz [.ref (L 0 0), .ref (L 14 f)] (fun r τ => mp_isDone ρ f = r ∧ ρ = τ) 0 0 := by
  refine Met.ofW (cc := cX5_isDone) (maxL := 2) (ret := (some .boolean)) (by decide) rfl ?_
  intro p e s m args below meth c0 s₁ B hml hv
  obtain ⟨rfl, hsz, hW, hKK⟩ := hv
  have hx := B.exec
  have hb := B.bytes
  have hr := B.returns
  have hts := atoms_spec (ws := wsX5_isDone) B.pre
  have hown : s.vm.findClass RX5 = some m.cls := findClass_of_methodNamed B.named
  have hlocks := B.notSynchronized
  have hS : va_S A s.heap s.heap [] := va_S.rf
  have hl := lv_entry ([.ref (L 0 0), .ref (L 14 f)]) (n := 2) (Nat.le_of_ble_eq_true rfl)
  rw [lg_entry_eq]
  generalize (lg_sl ([.ref (L 0 0), .ref (L 14 f)]) ++ List.replicate (2 - (lg_sl ([.ref (L 0 0), .ref (L 14 f)])).length) Slot.unset).toArray = ls at hl ⊢
  have hl : lv_has ls 2 [(0, .ref (L 0 0)), (1, .ref (L 14 f))] := hl
  refine lv_aload_n hx hb dX5_isDone_0 rfl (lv_at hl 1 rfl) ?_
  refine lv_iconst (v := 2) hx hb dX5_isDone_1 (by decide) ?_
  refine mh_iald hx hb hKK.1 hW 14 f (by decide) (mh_ixR (k := 4) (by decide) (by decide) (by show f < mh_n 4; unfold mh_n; simp; omega)) (i := 2) (by unfold vp_in; decide) dX5_isDone_2 ?_
  rw [show (2 : Int32).toNatClampNeg = 2 from by decide]
  refine lv_bipush (v := 6) hx hb dX5_isDone_3 (by decide) ?_
  refine lv_icmp_ne (tgt := 21) hx hb dX5_isDone_5 (by decide) (fun c_5 => ?_) (fun c_5 => ?_)
  · refine lv_iconst (v := 0) hx hb dX5_isDone_21 (by decide) ?_
    exact W.zret (v := 0) (ty := .boolean) hx hb hr rfl (fun t ht hW9 => ⟨⟨0, ρ, rfl, ⟨by unfold mp_isDone; rw [if_neg c_5], rfl⟩, by show mh_W D d.1 cB L _ A t.heap; rw [ht]; exact hW⟩, hS.F ht⟩) hS.2.2 dX5_isDone_22
  · refine lv_aload_n hx hb dX5_isDone_8 rfl (lv_at hl 1 rfl) ?_
    refine lv_bipush (v := 7) hx hb dX5_isDone_9 (by decide) ?_
    refine mh_iald hx hb hKK.1 hW 14 f (by decide) (mh_ixR (k := 4) (by decide) (by decide) (by show f < mh_n 4; unfold mh_n; simp; omega)) (i := 7) (by unfold vp_in; decide) dX5_isDone_11 ?_
    rw [show (7 : Int32).toNatClampNeg = 7 from by decide]
    refine lv_bipush (v := 7) hx hb dX5_isDone_12 (by decide) ?_
    refine lv_icmp_eq (tgt := 21) hx hb dX5_isDone_14 (by decide) (fun c_14 => ?_) (fun c_14 => ?_)
    · refine lv_iconst (v := 0) hx hb dX5_isDone_21 (by decide) ?_
      exact W.zret (v := 0) (ty := .boolean) hx hb hr rfl (fun t ht hW9 => ⟨⟨0, ρ, rfl, ⟨by unfold mp_isDone; rw [if_pos c_5, if_pos c_14], rfl⟩, by show mh_W D d.1 cB L _ A t.heap; rw [ht]; exact hW⟩, hS.F ht⟩) hS.2.2 dX5_isDone_22
    · refine lv_iconst (v := 1) hx hb dX5_isDone_17 (by decide) ?_
      refine lv_goto (tgt := 22) hx hb dX5_isDone_18 (by decide) ?_
      exact W.zret (v := 1) (ty := .boolean) hx hb hr rfl (fun t ht hW9 => ⟨⟨1, ρ, rfl, ⟨by unfold mp_isDone; rw [if_pos c_5, if_neg c_14], rfl⟩, by show mh_W D d.1 cB L _ A t.heap; rw [ht]; exact hW⟩, hS.F ht⟩) hS.2.2 dX5_isDone_22
set_option maxHeartbeats 4000000 in
set_option maxRecDepth 100000 in
/-- the reference: X5_isShown -/
theorem kX5_isShown (l : Launch) (D : va_G) (d : hs_Dm) (cB : ClassId) (L : hs_Lo) (ρ : hs_St) (A : Nat → Prop) (sz : Nat) (f : Nat) (hf : f < 8) : mh_Mi l yX5_isShown wsX5_isShown ({ frames := 0, cells := 0, slots := 0, locals := 0 } : Room) D d cB L ρ A sz [.ref (L 0 0), .ref (L 14 f)] (fun r τ => mp_isShown ρ f = r ∧ ρ = τ) 0 0 := by
  refine Met.ofW (cc := cX5_isShown) (maxL := 2) (ret := (some .boolean)) (by decide) rfl ?_
  intro p e s m args below meth c0 s₁ B hml hv
  obtain ⟨rfl, hsz, hW, hKK⟩ := hv
  have hx := B.exec
  have hb := B.bytes
  have hr := B.returns
  have hts := atoms_spec (ws := wsX5_isShown) B.pre
  have hown : s.vm.findClass RX5 = some m.cls := findClass_of_methodNamed B.named
  have hlocks := B.notSynchronized
  have hS : va_S A s.heap s.heap [] := va_S.rf
  have hl := lv_entry ([.ref (L 0 0), .ref (L 14 f)]) (n := 2) (Nat.le_of_ble_eq_true rfl)
  rw [lg_entry_eq]
  generalize (lg_sl ([.ref (L 0 0), .ref (L 14 f)]) ++ List.replicate (2 - (lg_sl ([.ref (L 0 0), .ref (L 14 f)])).length) Slot.unset).toArray = ls at hl ⊢
  have hl : lv_has ls 2 [(0, .ref (L 0 0)), (1, .ref (L 14 f))] := hl
  refine lv_aload_n hx hb dX5_isShown_0 rfl (lv_at hl 1 rfl) ?_
  refine lv_bipush (v := 7) hx hb dX5_isShown_1 (by decide) ?_
  refine mh_iald hx hb hKK.1 hW 14 f (by decide) (mh_ixR (k := 4) (by decide) (by decide) (by show f < mh_n 4; unfold mh_n; simp; omega)) (i := 7) (by unfold vp_in; decide) dX5_isShown_3 ?_
  rw [show (7 : Int32).toNatClampNeg = 7 from by decide]
  refine lv_iconst (v := 5) hx hb dX5_isShown_4 (by decide) ?_
  refine lv_icmp_ge (tgt := 12) hx hb dX5_isShown_5 (by decide) (fun c_5 => ?_) (fun c_5 => ?_)
  · refine lv_iconst (v := 0) hx hb dX5_isShown_12 (by decide) ?_
    exact W.zret (v := 0) (ty := .boolean) hx hb hr rfl (fun t ht hW9 => ⟨⟨0, ρ, rfl, ⟨by unfold mp_isShown; rw [if_pos c_5], rfl⟩, by show mh_W D d.1 cB L _ A t.heap; rw [ht]; exact hW⟩, hS.F ht⟩) hS.2.2 dX5_isShown_13
  · refine lv_iconst (v := 1) hx hb dX5_isShown_8 (by decide) ?_
    refine lv_goto (tgt := 13) hx hb dX5_isShown_9 (by decide) ?_
    exact W.zret (v := 1) (ty := .boolean) hx hb hr rfl (fun t ht hW9 => ⟨⟨1, ρ, rfl, ⟨by unfold mp_isShown; rw [if_neg c_5], rfl⟩, by show mh_W D d.1 cB L _ A t.heap; rw [ht]; exact hW⟩, hS.F ht⟩) hS.2.2 dX5_isShown_13
set_option maxHeartbeats 4000000 in
set_option maxRecDepth 100000 in
/-- the reference: X5_likeness -/
theorem kX5_likeness (l : Launch) (D : va_G) (d : hs_Dm) (cB : ClassId) (L : hs_Lo) (ρ : hs_St) (A : Nat → Prop) (sz : Nat) (f : Nat) (hf : f < 8) (hh : ∃ h, h < 10 ∧ ρ 14 f 0 = nI h) (hbd : ∃ h, h < 10 ∧ ρ 14 f 1 = nI h) : mh_Mi l yX5_likeness wsX5_likeness ({ frames := 2, cells := 0, slots := 0, locals := 40 } : Room) D d cB L ρ A sz [.ref (L 0 0), .ref (L 14 f)] (fun r τ => mp_like ρ f = r ∧ ρ = τ) 0 0 := by
  refine Met.ofW (cc := cX5_likeness) (maxL := 3) (ret := (some .int)) (by decide) rfl ?_
  intro p e s m args below meth c0 s₁ B hml hv
  obtain ⟨rfl, hsz, hW, hKK⟩ := hv
  have hx := B.exec
  have hb := B.bytes
  have hr := B.returns
  have hts := atoms_spec (ws := wsX5_likeness) B.pre
  have hown : s.vm.findClass RX5 = some m.cls := findClass_of_methodNamed B.named
  have hlocks := B.notSynchronized
  have hS : va_S A s.heap s.heap [] := va_S.rf
  have hl := lv_entry ([.ref (L 0 0), .ref (L 14 f)]) (n := 3) (Nat.le_of_ble_eq_true rfl)
  rw [lg_entry_eq]
  generalize (lg_sl ([.ref (L 0 0), .ref (L 14 f)]) ++ List.replicate (3 - (lg_sl ([.ref (L 0 0), .ref (L 14 f)])).length) Slot.unset).toArray = ls at hl ⊢
  have hl : lv_has ls 3 [(0, .ref (L 0 0)), (1, .ref (L 14 f))] := hl
  obtain ⟨h0, h0l, h0e⟩ := hh
  obtain ⟨h1, h1l, h1e⟩ := hbd
  refine lv_aload_n hx hb dX5_likeness_0 rfl (lv_at hl 0 rfl) ?_
  refine lv_aload_n hx hb dX5_likeness_1 rfl (lv_at hl 1 rfl) ?_
  refine mh_calli (As := [.ref (L 14 f)]) ⟨hx, hb, hml, hown, hts⟩ (kX5_isDone l D d cB L ρ A s.heap.size f hf) (cwV 1 hts gX5_likeness_X5_isDone rfl rfl rfl (by decide +kernel) ⟨Nat.le_of_ble_eq_true rfl, Nat.le_of_ble_eq_true rfl⟩) hKK hW hS rfl hl.1 (Nat.le_of_ble_eq_true rfl) dX5_likeness_2 ⟨Nat.le_of_ble_eq_true rfl, Nat.le_of_ble_eq_true rfl⟩ rfl (fun r_ τ_ H locs hp hW hz hqq hS => ?_)
  obtain ⟨e1_, e2_⟩ := hp
  subst e1_ e2_
  refine lv_if_ne (tgt := 10) hx hb dX5_likeness_5 (by decide) (fun c_5 => ?_) (fun c_5 => ?_)
  · refine lv_aload_n hx hb dX5_likeness_10 rfl (lv_at hl 1 rfl) ?_
    refine lv_iconst (v := 5) hx hb dX5_likeness_11 (by decide) ?_
    refine mh_iald hx hb hKK.1 hW 14 f (by decide) (mh_ixR (k := 4) (by decide) (by decide) (by show f < mh_n 4; unfold mh_n; simp; omega)) (i := 5) (by unfold vp_in; decide) dX5_likeness_12 ?_
    rw [show (5 : Int32).toNatClampNeg = 5 from by decide]
    refine lv_aload_n hx hb dX5_likeness_13 rfl (lv_at hl 1 rfl) ?_
    refine lv_bipush (v := 6) hx hb dX5_likeness_14 (by decide) ?_
    refine mh_iald hx hb hKK.1 hW 14 f (by decide) (mh_ixR (k := 4) (by decide) (by decide) (by show f < mh_n 4; unfold mh_n; simp; omega)) (i := 6) (by unfold vp_in; decide) dX5_likeness_16 ?_
    rw [show (6 : Int32).toNatClampNeg = 6 from by decide]
    refine lv_iconst (v := 2) hx hb dX5_likeness_17 (by decide) ?_
    refine lv_idiv hx hb dX5_likeness_18 (by decide) ?_
    refine lv_iadd hx hb dX5_likeness_19 ?_
    refine lv_aload_n hx hb dX5_likeness_20 rfl (lv_at hl 1 rfl) ?_
    refine lv_iconst (v := 0) hx hb dX5_likeness_21 (by decide) ?_
    refine mh_iald hx hb hKK.1 hW 14 f (by decide) (mh_ixR (k := 4) (by decide) (by decide) (by show f < mh_n 4; unfold mh_n; simp; omega)) (i := 0) (by unfold vp_in; decide) dX5_likeness_22 ?_
    rw [show (0 : Int32).toNatClampNeg = 0 from by decide]
    refine lv_aload_n hx hb dX5_likeness_23 rfl (lv_at hl 1 rfl) ?_
    refine lv_iconst (v := 1) hx hb dX5_likeness_24 (by decide) ?_
    refine mh_iald hx hb hKK.1 hW 14 f (by decide) (mh_ixR (k := 4) (by decide) (by decide) (by show f < mh_n 4; unfold mh_n; simp; omega)) (i := 1) (by unfold vp_in; decide) dX5_likeness_25 ?_
    rw [show (1 : Int32).toNatClampNeg = 1 from by decide]
    refine lv_icmp_ne (tgt := 33) hx hb dX5_likeness_26 (by decide) (fun c_26 => ?_) (fun c_26 => ?_)
    · refine lv_aload_n hx hb dX5_likeness_33 rfl (lv_at hl 0 rfl) ?_
      refine lv_aload_n hx hb dX5_likeness_34 rfl (lv_at hl 1 rfl) ?_
      refine lv_iconst (v := 0) hx hb dX5_likeness_35 (by decide) ?_
      refine mh_iald hx hb hKK.1 hW 14 f (by decide) (mh_ixR (k := 4) (by decide) (by decide) (by show f < mh_n 4; unfold mh_n; simp; omega)) (i := 0) (by unfold vp_in; decide) dX5_likeness_36 ?_
      rw [show (0 : Int32).toNatClampNeg = 0 from by decide]
      rw [h0e]
      refine mh_calli (As := [.int (nI h0)]) ⟨hx, hb, hml, hown, hts⟩ (kX5_height l D d cB L ρ A H.size h0 (by omega)) (cwV 1 hts gX5_likeness_X5_height rfl rfl rfl (by decide +kernel) ⟨Nat.le_of_ble_eq_true rfl, Nat.le_of_ble_eq_true rfl⟩) hKK hW hS rfl hl.1 (Nat.le_of_ble_eq_true rfl) dX5_likeness_37 ⟨Nat.le_of_ble_eq_true rfl, Nat.le_of_ble_eq_true rfl⟩ rfl (fun r_ τ_ H locs hp hW hz hqq hS => ?_)
      obtain ⟨e1_, e2_⟩ := hp
      subst e1_ e2_
      refine lv_aload_n hx hb dX5_likeness_40 rfl (lv_at hl 0 rfl) ?_
      refine lv_aload_n hx hb dX5_likeness_41 rfl (lv_at hl 1 rfl) ?_
      refine lv_iconst (v := 1) hx hb dX5_likeness_42 (by decide) ?_
      refine mh_iald hx hb hKK.1 hW 14 f (by decide) (mh_ixR (k := 4) (by decide) (by decide) (by show f < mh_n 4; unfold mh_n; simp; omega)) (i := 1) (by unfold vp_in; decide) dX5_likeness_43 ?_
      rw [show (1 : Int32).toNatClampNeg = 1 from by decide]
      rw [h1e]
      refine mh_calli (As := [.int (nI h1)]) ⟨hx, hb, hml, hown, hts⟩ (kX5_height l D d cB L ρ A H.size h1 (by omega)) (cwV 1 hts gX5_likeness_X5_height rfl rfl rfl (by decide +kernel) ⟨Nat.le_of_ble_eq_true rfl, Nat.le_of_ble_eq_true rfl⟩) hKK hW hS rfl hl.1 (Nat.le_of_ble_eq_true rfl) dX5_likeness_44 ⟨Nat.le_of_ble_eq_true rfl, Nat.le_of_ble_eq_true rfl⟩ rfl (fun r_ τ_ H locs hp hW hz hqq hS => ?_)
      obtain ⟨e1_, e2_⟩ := hp
      subst e1_ e2_
      refine lv_isub hx hb dX5_likeness_47 ?_
      refine va_mabs hx hb (by rw [hml]; exact hl.1.symm) hown (hts (.methodLink RX5 76 Lib.Math.abs.name) (by decide +kernel)) (hts (.static Lib.Math.abs.name) (by decide +kernel)) (hts (.initialized "java/lang/Math") (by decide +kernel)) (hts (.code Lib.Math.abs.name Lib.Math.abs.code 1 (some .int)) (by decide +kernel)) (Nat.le_of_ble_eq_true rfl) (Nat.le_of_ble_eq_true rfl) (Nat.zero_le _) (Nat.zero_le _) dX5_likeness_48 ?_
      refine lv_iconst (v := 4) hx hb dX5_likeness_51 (by decide) ?_
      refine lv_idiv hx hb dX5_likeness_52 (by decide) ?_
      refine lv_iadd hx hb dX5_likeness_53 ?_
      refine lv_istore_n (lv' := [(2, .int (((ρ 14 f 5) + ((ρ 14 f 6) / 2)) + ((if 0 ≤ ((mp_height ρ h0) - (mp_height ρ h1)) then ((mp_height ρ h0) - (mp_height ρ h1)) else 0 - ((mp_height ρ h0) - (mp_height ρ h1))) / 4))), (0, .ref (L 0 0)), (1, .ref (L 14 f))]) hx hb dX5_likeness_54 rfl hl (by decide) rfl (fun ls hl => ?_)
      refine lv_iconst (v := 0) hx hb dX5_likeness_55 (by decide) ?_
      refine lv_bipush (v := 100) hx hb dX5_likeness_56 (by decide) ?_
      refine lv_iload_n hx hb dX5_likeness_58 rfl (lv_at hl 0 rfl) ?_
      refine lv_isub hx hb dX5_likeness_59 ?_
      refine va_mmax hx hb (by rw [hml]; exact hl.1.symm) hown (hts (.methodLink RX5 81 Lib.Math.max.name) (by decide +kernel)) (hts (.static Lib.Math.max.name) (by decide +kernel)) (hts (.initialized "java/lang/Math") (by decide +kernel)) (hts (.code Lib.Math.max.name Lib.Math.max.code 2 (some .int)) (by decide +kernel)) (Nat.le_of_ble_eq_true rfl) (Nat.le_of_ble_eq_true rfl) (Nat.zero_le _) (Nat.zero_le _) dX5_likeness_60 ?_
      exact W.iret (v := if 0 < 100 - (((ρ 14 f 5) + ((ρ 14 f 6) / 2)) + ((if 0 ≤ ((mp_height ρ h0) - (mp_height ρ h1)) then ((mp_height ρ h0) - (mp_height ρ h1)) else 0 - ((mp_height ρ h0) - (mp_height ρ h1))) / 4)) then 100 - (((ρ 14 f 5) + ((ρ 14 f 6) / 2)) + ((if 0 ≤ ((mp_height ρ h0) - (mp_height ρ h1)) then ((mp_height ρ h0) - (mp_height ρ h1)) else 0 - ((mp_height ρ h0) - (mp_height ρ h1))) / 4)) else 0) hx hb hr (fun t ht hW9 => ⟨⟨if 0 < 100 - (((ρ 14 f 5) + ((ρ 14 f 6) / 2)) + ((if 0 ≤ ((mp_height ρ h0) - (mp_height ρ h1)) then ((mp_height ρ h0) - (mp_height ρ h1)) else 0 - ((mp_height ρ h0) - (mp_height ρ h1))) / 4)) then 100 - (((ρ 14 f 5) + ((ρ 14 f 6) / 2)) + ((if 0 ≤ ((mp_height ρ h0) - (mp_height ρ h1)) then ((mp_height ρ h0) - (mp_height ρ h1)) else 0 - ((mp_height ρ h0) - (mp_height ρ h1))) / 4)) else 0, ρ, rfl, ⟨by unfold mp_like mp_less mp_max mp_abs; rw [if_neg c_5, if_neg c_26]; rw [h0e, h1e, nI_clamp (by omega), nI_clamp (by omega)], rfl⟩, by show mh_W D d.1 cB L _ A t.heap; rw [ht]; exact hW⟩, hS.F ht⟩) hS.2.2 dX5_likeness_63
    · refine lv_iconst (v := 0) hx hb dX5_likeness_29 (by decide) ?_
      refine lv_goto (tgt := 53) hx hb dX5_likeness_30 (by decide) ?_
      refine lv_iadd hx hb dX5_likeness_53 ?_
      refine lv_istore_n (lv' := [(2, .int (((ρ 14 f 5) + ((ρ 14 f 6) / 2)) + 0)), (0, .ref (L 0 0)), (1, .ref (L 14 f))]) hx hb dX5_likeness_54 rfl hl (by decide) rfl (fun ls hl => ?_)
      refine lv_iconst (v := 0) hx hb dX5_likeness_55 (by decide) ?_
      refine lv_bipush (v := 100) hx hb dX5_likeness_56 (by decide) ?_
      refine lv_iload_n hx hb dX5_likeness_58 rfl (lv_at hl 0 rfl) ?_
      refine lv_isub hx hb dX5_likeness_59 ?_
      refine va_mmax hx hb (by rw [hml]; exact hl.1.symm) hown (hts (.methodLink RX5 81 Lib.Math.max.name) (by decide +kernel)) (hts (.static Lib.Math.max.name) (by decide +kernel)) (hts (.initialized "java/lang/Math") (by decide +kernel)) (hts (.code Lib.Math.max.name Lib.Math.max.code 2 (some .int)) (by decide +kernel)) (Nat.le_of_ble_eq_true rfl) (Nat.le_of_ble_eq_true rfl) (Nat.zero_le _) (Nat.zero_le _) dX5_likeness_60 ?_
      exact W.iret (v := if 0 < 100 - (((ρ 14 f 5) + ((ρ 14 f 6) / 2)) + 0) then 100 - (((ρ 14 f 5) + ((ρ 14 f 6) / 2)) + 0) else 0) hx hb hr (fun t ht hW9 => ⟨⟨if 0 < 100 - (((ρ 14 f 5) + ((ρ 14 f 6) / 2)) + 0) then 100 - (((ρ 14 f 5) + ((ρ 14 f 6) / 2)) + 0) else 0, ρ, rfl, ⟨by unfold mp_like mp_less mp_max mp_abs; rw [if_neg c_5, if_pos c_26], rfl⟩, by show mh_W D d.1 cB L _ A t.heap; rw [ht]; exact hW⟩, hS.F ht⟩) hS.2.2 dX5_likeness_63
  · refine lv_iconst (v := 0) hx hb dX5_likeness_8 (by decide) ?_
    exact W.iret (v := 0) hx hb hr (fun t ht hW9 => ⟨⟨0, ρ, rfl, ⟨by unfold mp_like; rw [if_pos c_5], rfl⟩, by show mh_W D d.1 cB L _ A t.heap; rw [ht]; exact hW⟩, hS.F ht⟩) hS.2.2 dX5_likeness_9
set_option maxHeartbeats 4000000 in
set_option maxRecDepth 100000 in
/-- the reference: X5_draw -/
theorem kX5_draw (l : Launch) (D : va_G) (d : hs_Dm) (cB : ClassId) (L : hs_Lo) (ρ : hs_St) (A : Nat → Prop) (sz : Nat) (f : Nat) (hf : f < 8) (hh : ∃ h, h < 10 ∧ ρ 14 f 0 = nI h) (hbd : ∃ h, h < 10 ∧ ρ 14 f 1 = nI h) : mh_Mi l yX5_draw wsX5_draw ({ frames := 3, cells := 0, slots := 0, locals := 70 } : Room) D d cB L ρ A sz [.ref (L 0 0), .ref (L 14 f)] (fun r τ => mp_draw ρ f = r ∧ ρ = τ) 0 0 := by
  refine Met.ofW (cc := cX5_draw) (maxL := 2) (ret := (some .int)) (by decide) rfl ?_
  intro p e s m args below meth c0 s₁ B hml hv
  obtain ⟨rfl, hsz, hW, hKK⟩ := hv
  have hx := B.exec
  have hb := B.bytes
  have hr := B.returns
  have hts := atoms_spec (ws := wsX5_draw) B.pre
  have hown : s.vm.findClass RX5 = some m.cls := findClass_of_methodNamed B.named
  have hlocks := B.notSynchronized
  have hS : va_S A s.heap s.heap [] := va_S.rf
  have hl := lv_entry ([.ref (L 0 0), .ref (L 14 f)]) (n := 2) (Nat.le_of_ble_eq_true rfl)
  rw [lg_entry_eq]
  generalize (lg_sl ([.ref (L 0 0), .ref (L 14 f)]) ++ List.replicate (2 - (lg_sl ([.ref (L 0 0), .ref (L 14 f)])).length) Slot.unset).toArray = ls at hl ⊢
  have hl : lv_has ls 2 [(0, .ref (L 0 0)), (1, .ref (L 14 f))] := hl
  obtain ⟨h0, h0l, h0e⟩ := id hh
  refine lv_aload_n hx hb dX5_draw_0 rfl (lv_at hl 0 rfl) ?_
  refine lv_aload_n hx hb dX5_draw_1 rfl (lv_at hl 1 rfl) ?_
  refine mh_calli (As := [.ref (L 14 f)]) ⟨hx, hb, hml, hown, hts⟩ (kX5_isShown l D d cB L ρ A s.heap.size f hf) (cwV 1 hts gX5_draw_X5_isShown rfl rfl rfl (by decide +kernel) ⟨Nat.le_of_ble_eq_true rfl, Nat.le_of_ble_eq_true rfl⟩) hKK hW hS rfl hl.1 (Nat.le_of_ble_eq_true rfl) dX5_draw_2 ⟨Nat.le_of_ble_eq_true rfl, Nat.le_of_ble_eq_true rfl⟩ rfl (fun r_ τ_ H locs hp hW hz hqq hS => ?_)
  obtain ⟨e1_, e2_⟩ := hp
  subst e1_ e2_
  refine lv_if_eq (tgt := 30) hx hb dX5_draw_5 (by decide) (fun c_5 => ?_) (fun c_5 => ?_)
  · refine lv_iconst (v := 0) hx hb dX5_draw_30 (by decide) ?_
    exact W.iret (v := 0) hx hb hr (fun t ht hW9 => ⟨⟨0, ρ, rfl, ⟨by unfold mp_draw; rw [if_pos c_5], rfl⟩, by show mh_W D d.1 cB L _ A t.heap; rw [ht]; exact hW⟩, hS.F ht⟩) hS.2.2 dX5_draw_31
  · refine lv_aload_n hx hb dX5_draw_8 rfl (lv_at hl 0 rfl) ?_
    refine mh_get hx hb hts (by decide +kernel) hown hKK.1 hW 0 (by decide) (hts (.fieldLink RX5 11 "WaxrowModel$House" "persons" "[[I") (by decide +kernel)) rfl (v := .ref (L 1 0)) rfl dX5_draw_9 ?_
    refine lv_aload_n hx hb dX5_draw_12 rfl (lv_at hl 1 rfl) ?_
    refine lv_iconst (v := 0) hx hb dX5_draw_13 (by decide) ?_
    refine mh_iald hx hb hKK.1 hW 14 f (by decide) (mh_ixR (k := 4) (by decide) (by decide) (by show f < mh_n 4; unfold mh_n; simp; omega)) (i := 0) (by unfold vp_in; decide) dX5_draw_14 ?_
    rw [show (0 : Int32).toNatClampNeg = 0 from by decide]
    rw [h0e]
    refine mh_aald hx hb hKK.2.1 hW 1 h0 (by decide) (by decide) (by show h0 < mh_n 1; unfold mh_n; simp; omega) dX5_draw_15 ?_
    refine lv_iconst (v := 0) hx hb dX5_draw_16 (by decide) ?_
    refine mh_iald hx hb hKK.1 hW 11 h0 (by decide) (mh_ixR (k := 1) (by decide) (by decide) (by show h0 < mh_n 1; unfold mh_n; simp; omega)) (i := 0) (by unfold vp_in; decide) dX5_draw_17 ?_
    rw [show (0 : Int32).toNatClampNeg = 0 from by decide]
    refine lv_aload_n hx hb dX5_draw_18 rfl (lv_at hl 0 rfl) ?_
    refine lv_aload_n hx hb dX5_draw_19 rfl (lv_at hl 1 rfl) ?_
    refine mh_calli (As := [.ref (L 14 f)]) ⟨hx, hb, hml, hown, hts⟩ (kX5_likeness l D d cB L ρ A H.size f hf hh hbd) (cwV 1 hts gX5_draw_X5_likeness rfl rfl rfl (by decide +kernel) ⟨Nat.le_of_ble_eq_true rfl, Nat.le_of_ble_eq_true rfl⟩) hKK hW hS rfl hl.1 (Nat.le_of_ble_eq_true rfl) dX5_draw_20 ⟨Nat.le_of_ble_eq_true rfl, Nat.le_of_ble_eq_true rfl⟩ rfl (fun r_ τ_ H locs hp hW hz hqq hS => ?_)
    obtain ⟨e1_, e2_⟩ := hp
    subst e1_ e2_
    refine lv_imul hx hb dX5_draw_23 ?_
    refine lv_bipush (v := 100) hx hb dX5_draw_24 (by decide) ?_
    refine lv_idiv hx hb dX5_draw_26 (by decide) ?_
    refine lv_goto (tgt := 31) hx hb dX5_draw_27 (by decide) ?_
    exact W.iret (v := ((ρ 11 h0 0) * (mp_like ρ f)) / 100) hx hb hr (fun t ht hW9 => ⟨⟨((ρ 11 h0 0) * (mp_like ρ f)) / 100, ρ, rfl, ⟨by unfold mp_draw; rw [if_neg c_5, h0e, nI_clamp (by omega)], rfl⟩, by show mh_W D d.1 cB L _ A t.heap; rw [ht]; exact hW⟩, hS.F ht⟩) hS.2.2 dX5_draw_31
set_option maxHeartbeats 4000000 in
set_option maxRecDepth 100000 in
/-- the reference: X5_hands: the loop at 4 -/
theorem lkX5_hands (l : Launch) (D : va_G) (d : hs_Dm) (cB : ClassId) (L : hs_Lo) (ρ : hs_St) (A : Nat → Prop) (sz : Nat) (P F R : Nat) (hok : mh_ok P F R ρ) {p : Program} {e : Env} {s : State} {m : MethodId} {args : Array Value} {below : List Frame} {meth : Method} {c0 : Code} (hx : p.tables.exec = Jvm.exec) (hb : c0.code = cX5_hands) (hr : meth.sig.returnType = (some .int)) (hts : ∀ w ∈ wsX5_hands, w.before args s = true) (hown : s.vm.findClass RX5 = some m.cls) (hlocks : meth.locks = false) (hml : c0.maxLocals = 3) (hKK : mh_K D d cB s) : ∀ (kk n : Nat), n + kk = F → ∀ (H : Heap) (locs : List Loc), mh_W D d.1 cB L ρ A H → va_S A s.heap H locs → ∀ ls : Array Slot, lv_has ls 3 [(2, .int (nI n)), (1, .int (mp_hands ρ n)), (0, .ref (L 0 0))] → W p l e ({ frames := 0, cells := 0, slots := 0, locals := 0 } : Room) s m args below meth c0 H locs 0 0 (MQ below (va_Qi (fun r τ => mp_hands ρ F = r ∧ ρ = τ) (fun τ t => mh_W D d.1 cB L τ A t.heap) A) args s 0 0 A) (F0 m 4 ls []) := by
  intro kk
  induction kk with
  | zero =>
    intro n hn H locs hW hS ls hl
    have hnN : n = F := by omega
    have hF8 := hok.2.1
    refine lv_iload_n hx hb dX5_hands_4 rfl (lv_at hl 0 rfl) ?_
    refine lv_aload_n hx hb dX5_hands_5 rfl (lv_at hl 2 rfl) ?_
    refine mh_get hx hb hts (by decide +kernel) hown hKK.1 hW 7 (by decide) (hts (.fieldLink RX5 56 "WaxrowModel$House" "figureCount" "I") (by decide +kernel)) rfl (v := .int (ρ 0 0 7)) rfl dX5_hands_6 ?_
    rw [show ρ 0 0 7 = nI F from hok.2.2.2.2.1]
    refine lv_icmp_ge (tgt := 29) hx hb dX5_hands_9 (by decide) (fun c_9 => ?_) (fun c_9 => ?_)
    · refine lv_iload_n hx hb dX5_hands_29 rfl (lv_at hl 1 rfl) ?_
      exact W.iret (v := mp_hands ρ n) hx hb hr (fun t ht hW9 => ⟨⟨mp_hands ρ n, ρ, rfl, ⟨by rw [hnN], rfl⟩, by show mh_W D d.1 cB L _ A t.heap; rw [ht]; exact hW⟩, hS.F ht⟩) hS.2.2 dX5_hands_30
    · exact absurd (by rw [hnN]; exact nI_le (a := F) (b := F) (Nat.le_refl _) (by omega)) c_9
  | succ kk ih =>
    intro n hn H locs hW hS ls hl
    have hnN : n < F := by omega
    have hF8 := hok.2.1
    refine lv_iload_n hx hb dX5_hands_4 rfl (lv_at hl 0 rfl) ?_
    refine lv_aload_n hx hb dX5_hands_5 rfl (lv_at hl 2 rfl) ?_
    refine mh_get hx hb hts (by decide +kernel) hown hKK.1 hW 7 (by decide) (hts (.fieldLink RX5 56 "WaxrowModel$House" "figureCount" "I") (by decide +kernel)) rfl (v := .int (ρ 0 0 7)) rfl dX5_hands_6 ?_
    rw [show ρ 0 0 7 = nI F from hok.2.2.2.2.1]
    refine lv_icmp_ge (tgt := 29) hx hb dX5_hands_9 (by decide) (fun c_9 => ?_) (fun c_9 => ?_)
    · exact absurd c_9 (nI_ge (b := F) hnN (by omega))
    · refine lv_iload_n hx hb dX5_hands_12 rfl (lv_at hl 1 rfl) ?_
      refine lv_aload_n hx hb dX5_hands_13 rfl (lv_at hl 2 rfl) ?_
      refine mh_get hx hb hts (by decide +kernel) hown hKK.1 hW 3 (by decide) (hts (.fieldLink RX5 22 "WaxrowModel$House" "figures" "[[I") (by decide +kernel)) rfl (v := .ref (L 4 0)) rfl dX5_hands_14 ?_
      refine lv_iload_n hx hb dX5_hands_17 rfl (lv_at hl 0 rfl) ?_
      refine mh_aald hx hb hKK.2.1 hW 4 n (by decide) (by decide) (by show n < mh_n 4; unfold mh_n; simp; omega) dX5_hands_18 ?_
      refine lv_iconst (v := 4) hx hb dX5_hands_19 (by decide) ?_
      refine mh_iald hx hb hKK.1 hW 14 n (by decide) (mh_ixR (k := 4) (by decide) (by decide) (by show n < mh_n 4; unfold mh_n; simp; omega)) (i := 4) (by unfold vp_in; decide) dX5_hands_20 ?_
      rw [show (4 : Int32).toNatClampNeg = 4 from by decide]
      refine lv_iadd hx hb dX5_hands_21 ?_
      refine lv_istore_n (lv' := [(1, .int ((mp_hands ρ n) + (ρ 14 n 4))), (2, .int (nI n)), (0, .ref (L 0 0))]) hx hb dX5_hands_22 rfl hl (by decide) rfl (fun ls hl => ?_)
      refine lv_iinc (v := nI (n + 1)) (lv' := [(2, .int (nI (n + 1))), (1, .int ((mp_hands ρ n) + (ρ 14 n 4))), (0, .ref (L 0 0))]) hx hb dX5_hands_23 hl (k := 1) rfl (nI_succ _).symm (by decide) rfl (fun ls hl => ?_)
      refine lv_goto (tgt := 4) hx hb dX5_hands_26 (by decide) ?_
      exact ih (n + 1) (by omega) _ _ hW hS ls (lv_sub hl [0, 1, 2] rfl)
set_option maxHeartbeats 4000000 in
set_option maxRecDepth 100000 in
/-- the reference: X5_hands -/
theorem kX5_hands (l : Launch) (D : va_G) (d : hs_Dm) (cB : ClassId) (L : hs_Lo) (ρ : hs_St) (A : Nat → Prop) (sz : Nat) (P F R : Nat) (hok : mh_ok P F R ρ) : mh_Mi l yX5_hands wsX5_hands ({ frames := 0, cells := 0, slots := 0, locals := 0 } : Room) D d cB L ρ A sz [.ref (L 0 0)] (fun r τ => mp_hands ρ F = r ∧ ρ = τ) 0 0 := by
  refine Met.ofW (cc := cX5_hands) (maxL := 3) (ret := (some .int)) (by decide) rfl ?_
  intro p e s m args below meth c0 s₁ B hml hv
  obtain ⟨rfl, hsz, hW, hKK⟩ := hv
  have hx := B.exec
  have hb := B.bytes
  have hr := B.returns
  have hts := atoms_spec (ws := wsX5_hands) B.pre
  have hown : s.vm.findClass RX5 = some m.cls := findClass_of_methodNamed B.named
  have hlocks := B.notSynchronized
  have hS : va_S A s.heap s.heap [] := va_S.rf
  have hl := lv_entry ([.ref (L 0 0)]) (n := 3) (Nat.le_of_ble_eq_true rfl)
  rw [lg_entry_eq]
  generalize (lg_sl ([.ref (L 0 0)]) ++ List.replicate (3 - (lg_sl ([.ref (L 0 0)])).length) Slot.unset).toArray = ls at hl ⊢
  have hl : lv_has ls 3 [(0, .ref (L 0 0))] := hl
  refine lv_iconst (v := 0) hx hb dX5_hands_0 (by decide) ?_
  refine lv_istore_n (lv' := [(1, .int 0), (0, .ref (L 0 0))]) hx hb dX5_hands_1 rfl hl (by decide) rfl (fun ls hl => ?_)
  refine lv_iconst (v := 0) hx hb dX5_hands_2 (by decide) ?_
  refine lv_istore_n (lv' := [(2, .int 0), (1, .int 0), (0, .ref (L 0 0))]) hx hb dX5_hands_3 rfl hl (by decide) rfl (fun ls hl => ?_)
  exact lkX5_hands l D d cB L ρ A sz P F R hok hx hb hr hts hown hlocks hml hKK F 0 (by omega) _ _ hW hS ls (lv_sub hl [0, 1, 2] rfl)
def mp_many (ρ : hs_St) (x : Int32) : Nat → Int32
  | 0 => 0
  | n + 1 => mp_many ρ x n + (if ρ 14 n 7 = x then 1 else 0)
/-- from figure n on, k of them -/
def mp_shownOf (ρ : hs_St) (q : Int32) : Nat → Nat → Int32
  | 0, _ => -1
  | k + 1, n => if mp_isShown ρ n = 0 then mp_shownOf ρ q k (n + 1) else if ρ 14 n 0 = q then nI n else mp_shownOf ρ q k (n + 1)
set_option maxHeartbeats 4000000 in
set_option maxRecDepth 100000 in
/-- the reference: X5_shownIn: the loop at 4 -/
theorem lkX5_shownIn (l : Launch) (D : va_G) (d : hs_Dm) (cB : ClassId) (L : hs_Lo) (ρ : hs_St) (A : Nat → Prop) (sz : Nat) (P F R : Nat) (hok : mh_ok P F R ρ) (x : Int32) {p : Program} {e : Env} {s : State} {m : MethodId} {args : Array Value} {below : List Frame} {meth : Method} {c0 : Code} (hx : p.tables.exec = Jvm.exec) (hb : c0.code = cX5_shownIn) (hr : meth.sig.returnType = (some .int)) (hts : ∀ w ∈ wsX5_shownIn, w.before args s = true) (hown : s.vm.findClass RX5 = some m.cls) (hlocks : meth.locks = false) (hml : c0.maxLocals = 4) (hKK : mh_K D d cB s) : ∀ (kk n : Nat), n + kk = F → ∀ (H : Heap) (locs : List Loc), mh_W D d.1 cB L ρ A H → va_S A s.heap H locs → ∀ ls : Array Slot, lv_has ls 4 [(3, .int (nI n)), (2, .int (mp_many ρ x n)), (0, .ref (L 0 0)), (1, .int x)] → W p l e ({ frames := 0, cells := 0, slots := 0, locals := 0 } : Room) s m args below meth c0 H locs 0 0 (MQ below (va_Qi (fun r τ => mp_many ρ x F = r ∧ ρ = τ) (fun τ t => mh_W D d.1 cB L τ A t.heap) A) args s 0 0 A) (F0 m 4 ls []) := by
  intro kk
  induction kk with
  | zero =>
    intro n hn H locs hW hS ls hl
    have hnN : n = F := by omega
    have hF8 := hok.2.1
    refine lv_iload_n hx hb dX5_shownIn_4 rfl (lv_at hl 0 rfl) ?_
    refine lv_aload_n hx hb dX5_shownIn_5 rfl (lv_at hl 2 rfl) ?_
    refine mh_get hx hb hts (by decide +kernel) hown hKK.1 hW 7 (by decide) (hts (.fieldLink RX5 56 "WaxrowModel$House" "figureCount" "I") (by decide +kernel)) rfl (v := .int (ρ 0 0 7)) rfl dX5_shownIn_6 ?_
    rw [show ρ 0 0 7 = nI F from hok.2.2.2.2.1]
    refine lv_icmp_ge (tgt := 39) hx hb dX5_shownIn_9 (by decide) (fun c_9 => ?_) (fun c_9 => ?_)
    · refine lv_iload_n hx hb dX5_shownIn_39 rfl (lv_at hl 1 rfl) ?_
      exact W.iret (v := mp_many ρ x n) hx hb hr (fun t ht hW9 => ⟨⟨mp_many ρ x n, ρ, rfl, ⟨by rw [hnN], rfl⟩, by show mh_W D d.1 cB L _ A t.heap; rw [ht]; exact hW⟩, hS.F ht⟩) hS.2.2 dX5_shownIn_40
    · exact absurd (by rw [hnN]; exact nI_le (a := F) (b := F) (Nat.le_refl _) (by omega)) c_9
  | succ kk ih =>
    intro n hn H locs hW hS ls hl
    have hnN : n < F := by omega
    have hF8 := hok.2.1
    refine lv_iload_n hx hb dX5_shownIn_4 rfl (lv_at hl 0 rfl) ?_
    refine lv_aload_n hx hb dX5_shownIn_5 rfl (lv_at hl 2 rfl) ?_
    refine mh_get hx hb hts (by decide +kernel) hown hKK.1 hW 7 (by decide) (hts (.fieldLink RX5 56 "WaxrowModel$House" "figureCount" "I") (by decide +kernel)) rfl (v := .int (ρ 0 0 7)) rfl dX5_shownIn_6 ?_
    rw [show ρ 0 0 7 = nI F from hok.2.2.2.2.1]
    refine lv_icmp_ge (tgt := 39) hx hb dX5_shownIn_9 (by decide) (fun c_9 => ?_) (fun c_9 => ?_)
    · exact absurd c_9 (nI_ge (b := F) hnN (by omega))
    · refine lv_iload_n hx hb dX5_shownIn_12 rfl (lv_at hl 1 rfl) ?_
      refine lv_aload_n hx hb dX5_shownIn_13 rfl (lv_at hl 2 rfl) ?_
      refine mh_get hx hb hts (by decide +kernel) hown hKK.1 hW 3 (by decide) (hts (.fieldLink RX5 22 "WaxrowModel$House" "figures" "[[I") (by decide +kernel)) rfl (v := .ref (L 4 0)) rfl dX5_shownIn_14 ?_
      refine lv_iload_n hx hb dX5_shownIn_17 rfl (lv_at hl 0 rfl) ?_
      refine mh_aald hx hb hKK.2.1 hW 4 n (by decide) (by decide) (by show n < mh_n 4; unfold mh_n; simp; omega) dX5_shownIn_18 ?_
      refine lv_bipush (v := 7) hx hb dX5_shownIn_19 (by decide) ?_
      refine mh_iald hx hb hKK.1 hW 14 n (by decide) (mh_ixR (k := 4) (by decide) (by decide) (by show n < mh_n 4; unfold mh_n; simp; omega)) (i := 7) (by unfold vp_in; decide) dX5_shownIn_21 ?_
      rw [show (7 : Int32).toNatClampNeg = 7 from by decide]
      refine lv_iload_n hx hb dX5_shownIn_22 rfl (lv_at hl 3 rfl) ?_
      refine lv_icmp_ne (tgt := 30) hx hb dX5_shownIn_23 (by decide) (fun c_23 => ?_) (fun c_23 => ?_)
      · refine lv_iconst (v := 0) hx hb dX5_shownIn_30 (by decide) ?_
        refine lv_iadd hx hb dX5_shownIn_31 ?_
        rw [show (mp_many ρ x n) + 0 = mp_many ρ x (n + 1) from (by show _ = mp_many ρ x n + _; rw [if_neg c_23])]
        refine lv_istore_n (lv' := [(2, .int (mp_many ρ x (n + 1))), (3, .int (nI n)), (0, .ref (L 0 0)), (1, .int x)]) hx hb dX5_shownIn_32 rfl hl (by decide) rfl (fun ls hl => ?_)
        refine lv_iinc (v := nI (n + 1)) (lv' := [(3, .int (nI (n + 1))), (2, .int (mp_many ρ x (n + 1))), (0, .ref (L 0 0)), (1, .int x)]) hx hb dX5_shownIn_33 hl (k := 1) rfl (nI_succ _).symm (by decide) rfl (fun ls hl => ?_)
        refine lv_goto (tgt := 4) hx hb dX5_shownIn_36 (by decide) ?_
        exact ih (n + 1) (by omega) _ _ hW hS ls (lv_sub hl [0, 1, 2, 3] rfl)
      · refine lv_iconst (v := 1) hx hb dX5_shownIn_26 (by decide) ?_
        refine lv_goto (tgt := 31) hx hb dX5_shownIn_27 (by decide) ?_
        refine lv_iadd hx hb dX5_shownIn_31 ?_
        rw [show (mp_many ρ x n) + 1 = mp_many ρ x (n + 1) from (by show _ = mp_many ρ x n + _; rw [if_pos c_23])]
        refine lv_istore_n (lv' := [(2, .int (mp_many ρ x (n + 1))), (3, .int (nI n)), (0, .ref (L 0 0)), (1, .int x)]) hx hb dX5_shownIn_32 rfl hl (by decide) rfl (fun ls hl => ?_)
        refine lv_iinc (v := nI (n + 1)) (lv' := [(3, .int (nI (n + 1))), (2, .int (mp_many ρ x (n + 1))), (0, .ref (L 0 0)), (1, .int x)]) hx hb dX5_shownIn_33 hl (k := 1) rfl (nI_succ _).symm (by decide) rfl (fun ls hl => ?_)
        refine lv_goto (tgt := 4) hx hb dX5_shownIn_36 (by decide) ?_
        exact ih (n + 1) (by omega) _ _ hW hS ls (lv_sub hl [0, 1, 2, 3] rfl)
set_option maxHeartbeats 4000000 in
set_option maxRecDepth 100000 in
/-- the reference: X5_shownIn -/
theorem kX5_shownIn (l : Launch) (D : va_G) (d : hs_Dm) (cB : ClassId) (L : hs_Lo) (ρ : hs_St) (A : Nat → Prop) (sz : Nat) (P F R : Nat) (hok : mh_ok P F R ρ) (x : Int32) : mh_Mi l yX5_shownIn wsX5_shownIn ({ frames := 0, cells := 0, slots := 0, locals := 0 } : Room) D d cB L ρ A sz [.ref (L 0 0), .int x] (fun r τ => mp_many ρ x F = r ∧ ρ = τ) 0 0 := by
  refine Met.ofW (cc := cX5_shownIn) (maxL := 4) (ret := (some .int)) (by decide) rfl ?_
  intro p e s m args below meth c0 s₁ B hml hv
  obtain ⟨rfl, hsz, hW, hKK⟩ := hv
  have hx := B.exec
  have hb := B.bytes
  have hr := B.returns
  have hts := atoms_spec (ws := wsX5_shownIn) B.pre
  have hown : s.vm.findClass RX5 = some m.cls := findClass_of_methodNamed B.named
  have hlocks := B.notSynchronized
  have hS : va_S A s.heap s.heap [] := va_S.rf
  have hl := lv_entry ([.ref (L 0 0), .int x]) (n := 4) (Nat.le_of_ble_eq_true rfl)
  rw [lg_entry_eq]
  generalize (lg_sl ([.ref (L 0 0), .int x]) ++ List.replicate (4 - (lg_sl ([.ref (L 0 0), .int x])).length) Slot.unset).toArray = ls at hl ⊢
  have hl : lv_has ls 4 [(0, .ref (L 0 0)), (1, .int x)] := hl
  refine lv_iconst (v := 0) hx hb dX5_shownIn_0 (by decide) ?_
  refine lv_istore_n (lv' := [(2, .int 0), (0, .ref (L 0 0)), (1, .int x)]) hx hb dX5_shownIn_1 rfl hl (by decide) rfl (fun ls hl => ?_)
  refine lv_iconst (v := 0) hx hb dX5_shownIn_2 (by decide) ?_
  refine lv_istore_n (lv' := [(3, .int 0), (2, .int 0), (0, .ref (L 0 0)), (1, .int x)]) hx hb dX5_shownIn_3 rfl hl (by decide) rfl (fun ls hl => ?_)
  exact lkX5_shownIn l D d cB L ρ A sz P F R hok x hx hb hr hts hown hlocks hml hKK F 0 (by omega) _ _ hW hS ls (lv_sub hl [0, 1, 2, 3] rfl)
set_option maxHeartbeats 4000000 in
set_option maxRecDepth 100000 in
/-- the reference: X5_drawsIn: the loop at 5 -/
theorem lkX5_drawsIn (l : Launch) (D : va_G) (d : hs_Dm) (cB : ClassId) (L : hs_Lo) (ρ : hs_St) (A : Nat → Prop) (sz : Nat) (P F R : Nat) (hok : mh_ok P F R ρ) (x y : Int32) {p : Program} {e : Env} {s : State} {m : MethodId} {args : Array Value} {below : List Frame} {meth : Method} {c0 : Code} (hx : p.tables.exec = Jvm.exec) (hb : c0.code = cX5_drawsIn) (hr : meth.sig.returnType = (some .int)) (hts : ∀ w ∈ wsX5_drawsIn, w.before args s = true) (hown : s.vm.findClass RX5 = some m.cls) (hlocks : meth.locks = false) (hml : c0.maxLocals = 5) (hKK : mh_K D d cB s) : ∀ (kk n : Nat), n + kk = F → ∀ (H : Heap) (locs : List Loc), mh_W D d.1 cB L ρ A H → va_S A s.heap H locs → ∀ ls : Array Slot, lv_has ls 5 [(4, .int (nI n)), (3, .int (mp_draws ρ x y n)), (0, .ref (L 0 0)), (1, .int x), (2, .int y)] → W p l e ({ frames := 4, cells := 0, slots := 0, locals := 110 } : Room) s m args below meth c0 H locs 0 0 (MQ below (va_Qi (fun r τ => mp_draws ρ x y F = r ∧ ρ = τ) (fun τ t => mh_W D d.1 cB L τ A t.heap) A) args s 0 0 A) (F0 m 5 ls []) := by
  intro kk
  induction kk with
  | zero =>
    intro n hn H locs hW hS ls hl
    have hnN : n = F := by omega
    have hF8 := hok.2.1
    refine lv_iload hx hb dX5_drawsIn_5 (lv_at hl 0 rfl) ?_
    refine lv_aload_n hx hb dX5_drawsIn_7 rfl (lv_at hl 2 rfl) ?_
    refine mh_get hx hb hts (by decide +kernel) hown hKK.1 hW 7 (by decide) (hts (.fieldLink RX5 56 "WaxrowModel$House" "figureCount" "I") (by decide +kernel)) rfl (v := .int (ρ 0 0 7)) rfl dX5_drawsIn_8 ?_
    rw [show ρ 0 0 7 = nI F from hok.2.2.2.2.1]
    refine lv_icmp_ge (tgt := 56) hx hb dX5_drawsIn_11 (by decide) (fun c_11 => ?_) (fun c_11 => ?_)
    · refine lv_iload_n hx hb dX5_drawsIn_56 rfl (lv_at hl 1 rfl) ?_
      exact W.iret (v := mp_draws ρ x y n) hx hb hr (fun t ht hW9 => ⟨⟨mp_draws ρ x y n, ρ, rfl, ⟨by rw [hnN], rfl⟩, by show mh_W D d.1 cB L _ A t.heap; rw [ht]; exact hW⟩, hS.F ht⟩) hS.2.2 dX5_drawsIn_57
    · exact absurd (by rw [hnN]; exact nI_le (a := F) (b := F) (Nat.le_refl _) (by omega)) c_11
  | succ kk ih =>
    intro n hn H locs hW hS ls hl
    have hnN : n < F := by omega
    have hF8 := hok.2.1
    refine lv_iload hx hb dX5_drawsIn_5 (lv_at hl 0 rfl) ?_
    refine lv_aload_n hx hb dX5_drawsIn_7 rfl (lv_at hl 2 rfl) ?_
    refine mh_get hx hb hts (by decide +kernel) hown hKK.1 hW 7 (by decide) (hts (.fieldLink RX5 56 "WaxrowModel$House" "figureCount" "I") (by decide +kernel)) rfl (v := .int (ρ 0 0 7)) rfl dX5_drawsIn_8 ?_
    rw [show ρ 0 0 7 = nI F from hok.2.2.2.2.1]
    refine lv_icmp_ge (tgt := 56) hx hb dX5_drawsIn_11 (by decide) (fun c_11 => ?_) (fun c_11 => ?_)
    · exact absurd c_11 (nI_ge (b := F) hnN (by omega))
    · refine lv_iload_n hx hb dX5_drawsIn_14 rfl (lv_at hl 1 rfl) ?_
      refine lv_aload_n hx hb dX5_drawsIn_15 rfl (lv_at hl 2 rfl) ?_
      refine mh_get hx hb hts (by decide +kernel) hown hKK.1 hW 3 (by decide) (hts (.fieldLink RX5 22 "WaxrowModel$House" "figures" "[[I") (by decide +kernel)) rfl (v := .ref (L 4 0)) rfl dX5_drawsIn_16 ?_
      refine lv_iload hx hb dX5_drawsIn_19 (lv_at hl 0 rfl) ?_
      refine mh_aald hx hb hKK.2.1 hW 4 n (by decide) (by decide) (by show n < mh_n 4; unfold mh_n; simp; omega) dX5_drawsIn_21 ?_
      refine lv_bipush (v := 7) hx hb dX5_drawsIn_22 (by decide) ?_
      refine mh_iald hx hb hKK.1 hW 14 n (by decide) (mh_ixR (k := 4) (by decide) (by decide) (by show n < mh_n 4; unfold mh_n; simp; omega)) (i := 7) (by unfold vp_in; decide) dX5_drawsIn_24 ?_
      rw [show (7 : Int32).toNatClampNeg = 7 from by decide]
      refine lv_iload_n hx hb dX5_drawsIn_25 rfl (lv_at hl 3 rfl) ?_
      refine lv_iload_n hx hb dX5_drawsIn_26 rfl (lv_at hl 4 rfl) ?_
      refine mh_pureN (As := [.int (ρ 14 n 7), .int x, .int y]) ⟨hx, hb, hml, hown, hts⟩ (kX6_in l (ρ 14 n 7) x y) ⟨va_cnB 3 hts gX5_drawsIn_X6_in_n92 rfl rfl rfl hKK.2.2.1 (hts (.initialized RX6) (by decide +kernel)) (by decide +kernel) ⟨Nat.le_of_ble_eq_true rfl, Nat.le_of_ble_eq_true rfl⟩, hts (.static yX6_in) (by decide +kernel), trivial⟩ hW hS rfl hl.1 (Nat.le_of_ble_eq_true rfl) dX5_drawsIn_27 ⟨Nat.le_of_ble_eq_true rfl, Nat.le_of_ble_eq_true rfl⟩ rfl (fun r_ H locs hp hW hz hqq hS => ?_)
      subst hp
      refine lv_if_eq (tgt := 47) hx hb dX5_drawsIn_30 (by decide) (fun c_30 => ?_) (fun c_30 => ?_)
      · refine lv_iconst (v := 0) hx hb dX5_drawsIn_47 (by decide) ?_
        refine lv_iadd hx hb dX5_drawsIn_48 ?_
        rw [show (mp_draws ρ x y n) + 0 = mp_draws ρ x y (n + 1) from (by show _ = mp_draws ρ x y n + _; rw [if_pos c_30])]
        refine lv_istore_n (lv' := [(3, .int (mp_draws ρ x y (n + 1))), (4, .int (nI n)), (0, .ref (L 0 0)), (1, .int x), (2, .int y)]) hx hb dX5_drawsIn_49 rfl hl (by decide) rfl (fun ls hl => ?_)
        refine lv_iinc (v := nI (n + 1)) (lv' := [(4, .int (nI (n + 1))), (3, .int (mp_draws ρ x y (n + 1))), (0, .ref (L 0 0)), (1, .int x), (2, .int y)]) hx hb dX5_drawsIn_50 hl (k := 1) rfl (nI_succ _).symm (by decide) rfl (fun ls hl => ?_)
        refine lv_goto (tgt := 5) hx hb dX5_drawsIn_53 (by decide) ?_
        exact ih (n + 1) (by omega) _ _ hW hS ls (lv_sub hl [0, 1, 2, 3, 4] rfl)
      · refine lv_aload_n hx hb dX5_drawsIn_33 rfl (lv_at hl 2 rfl) ?_
        refine lv_aload_n hx hb dX5_drawsIn_34 rfl (lv_at hl 2 rfl) ?_
        refine mh_get hx hb hts (by decide +kernel) hown hKK.1 hW 3 (by decide) (hts (.fieldLink RX5 22 "WaxrowModel$House" "figures" "[[I") (by decide +kernel)) rfl (v := .ref (L 4 0)) rfl dX5_drawsIn_35 ?_
        refine lv_iload hx hb dX5_drawsIn_38 (lv_at hl 0 rfl) ?_
        refine mh_aald hx hb hKK.2.1 hW 4 n (by decide) (by decide) (by show n < mh_n 4; unfold mh_n; simp; omega) dX5_drawsIn_40 ?_
        refine mh_calli (As := [.ref (L 14 n)]) ⟨hx, hb, hml, hown, hts⟩ (kX5_draw l D d cB L ρ A H.size n (by omega) (by obtain ⟨h_, h1_, h2_⟩ := (hok.2.2.2.2.2.2 n hnN).1; exact ⟨h_, by have := hok.1; omega, h2_⟩) (by obtain ⟨h_, h1_, h2_⟩ := (hok.2.2.2.2.2.2 n hnN).2.1; exact ⟨h_, by have := hok.1; omega, h2_⟩)) (cwV 1 hts gX5_drawsIn_X5_draw rfl rfl rfl (by decide +kernel) ⟨Nat.le_of_ble_eq_true rfl, Nat.le_of_ble_eq_true rfl⟩) hKK hW hS rfl hl.1 (Nat.le_of_ble_eq_true rfl) dX5_drawsIn_41 ⟨Nat.le_of_ble_eq_true rfl, Nat.le_of_ble_eq_true rfl⟩ rfl (fun r_ τ_ H locs hp hW hz hqq hS => ?_)
        obtain ⟨e1_, e2_⟩ := hp
        subst e1_ e2_
        refine lv_goto (tgt := 48) hx hb dX5_drawsIn_44 (by decide) ?_
        refine lv_iadd hx hb dX5_drawsIn_48 ?_
        rw [show (mp_draws ρ x y n) + (mp_draw ρ n) = mp_draws ρ x y (n + 1) from (by show _ = mp_draws ρ x y n + _; rw [if_neg c_30])]
        refine lv_istore_n (lv' := [(3, .int (mp_draws ρ x y (n + 1))), (4, .int (nI n)), (0, .ref (L 0 0)), (1, .int x), (2, .int y)]) hx hb dX5_drawsIn_49 rfl hl (by decide) rfl (fun ls hl => ?_)
        refine lv_iinc (v := nI (n + 1)) (lv' := [(4, .int (nI (n + 1))), (3, .int (mp_draws ρ x y (n + 1))), (0, .ref (L 0 0)), (1, .int x), (2, .int y)]) hx hb dX5_drawsIn_50 hl (k := 1) rfl (nI_succ _).symm (by decide) rfl (fun ls hl => ?_)
        refine lv_goto (tgt := 5) hx hb dX5_drawsIn_53 (by decide) ?_
        exact ih (n + 1) (by omega) _ _ hW hS ls (lv_sub hl [0, 1, 2, 3, 4] rfl)
set_option maxHeartbeats 4000000 in
set_option maxRecDepth 100000 in
/-- the reference: X5_drawsIn -/
theorem kX5_drawsIn (l : Launch) (D : va_G) (d : hs_Dm) (cB : ClassId) (L : hs_Lo) (ρ : hs_St) (A : Nat → Prop) (sz : Nat) (P F R : Nat) (hok : mh_ok P F R ρ) (x y : Int32) : mh_Mi l yX5_drawsIn wsX5_drawsIn ({ frames := 4, cells := 0, slots := 0, locals := 110 } : Room) D d cB L ρ A sz [.ref (L 0 0), .int x, .int y] (fun r τ => mp_draws ρ x y F = r ∧ ρ = τ) 0 0 := by
  refine Met.ofW (cc := cX5_drawsIn) (maxL := 5) (ret := (some .int)) (by decide) rfl ?_
  intro p e s m args below meth c0 s₁ B hml hv
  obtain ⟨rfl, hsz, hW, hKK⟩ := hv
  have hx := B.exec
  have hb := B.bytes
  have hr := B.returns
  have hts := atoms_spec (ws := wsX5_drawsIn) B.pre
  have hown : s.vm.findClass RX5 = some m.cls := findClass_of_methodNamed B.named
  have hlocks := B.notSynchronized
  have hS : va_S A s.heap s.heap [] := va_S.rf
  have hl := lv_entry ([.ref (L 0 0), .int x, .int y]) (n := 5) (Nat.le_of_ble_eq_true rfl)
  rw [lg_entry_eq]
  generalize (lg_sl ([.ref (L 0 0), .int x, .int y]) ++ List.replicate (5 - (lg_sl ([.ref (L 0 0), .int x, .int y])).length) Slot.unset).toArray = ls at hl ⊢
  have hl : lv_has ls 5 [(0, .ref (L 0 0)), (1, .int x), (2, .int y)] := hl
  refine lv_iconst (v := 0) hx hb dX5_drawsIn_0 (by decide) ?_
  refine lv_istore_n (lv' := [(3, .int 0), (0, .ref (L 0 0)), (1, .int x), (2, .int y)]) hx hb dX5_drawsIn_1 rfl hl (by decide) rfl (fun ls hl => ?_)
  refine lv_iconst (v := 0) hx hb dX5_drawsIn_2 (by decide) ?_
  refine lv_istore (lv' := [(4, .int 0), (3, .int 0), (0, .ref (L 0 0)), (1, .int x), (2, .int y)]) hx hb dX5_drawsIn_3 hl (by decide) rfl (fun ls hl => ?_)
  exact lkX5_drawsIn l D d cB L ρ A sz P F R hok x y hx hb hr hts hown hlocks hml hKK F 0 (by omega) _ _ hW hS ls (lv_sub hl [0, 1, 2, 3, 4] rfl)
set_option maxHeartbeats 4000000 in
set_option maxRecDepth 100000 in
/-- the reference: X5_shownOf: the loop at 2 -/
theorem lkX5_shownOf (l : Launch) (D : va_G) (d : hs_Dm) (cB : ClassId) (L : hs_Lo) (ρ : hs_St) (A : Nat → Prop) (sz : Nat) (P F R : Nat) (hok : mh_ok P F R ρ) (q : Int32) {p : Program} {e : Env} {s : State} {m : MethodId} {args : Array Value} {below : List Frame} {meth : Method} {c0 : Code} (hx : p.tables.exec = Jvm.exec) (hb : c0.code = cX5_shownOf) (hr : meth.sig.returnType = (some .int)) (hts : ∀ w ∈ wsX5_shownOf, w.before args s = true) (hown : s.vm.findClass RX5 = some m.cls) (hlocks : meth.locks = false) (hml : c0.maxLocals = 3) (hKK : mh_K D d cB s) : ∀ (kk n : Nat), n + kk = F → mp_shownOf ρ q kk n = mp_shownOf ρ q F 0 → ∀ (H : Heap) (locs : List Loc), mh_W D d.1 cB L ρ A H → va_S A s.heap H locs → ∀ ls : Array Slot, lv_has ls 3 [(2, .int (nI n)), (0, .ref (L 0 0)), (1, .int q)] → W p l e ({ frames := 1, cells := 0, slots := 0, locals := 40 } : Room) s m args below meth c0 H locs 0 0 (MQ below (va_Qi (fun r τ => mp_shownOf ρ q F 0 = r ∧ ρ = τ) (fun τ t => mh_W D d.1 cB L τ A t.heap) A) args s 0 0 A) (F0 m 2 ls []) := by
  intro kk
  induction kk with
  | zero =>
    intro n hn hyp H locs hW hS ls hl
    have hnN : n = F := by omega
    have hF8 := hok.2.1
    refine lv_iload_n hx hb dX5_shownOf_2 rfl (lv_at hl 0 rfl) ?_
    refine lv_aload_n hx hb dX5_shownOf_3 rfl (lv_at hl 1 rfl) ?_
    refine mh_get hx hb hts (by decide +kernel) hown hKK.1 hW 7 (by decide) (hts (.fieldLink RX5 56 "WaxrowModel$House" "figureCount" "I") (by decide +kernel)) rfl (v := .int (ρ 0 0 7)) rfl dX5_shownOf_4 ?_
    rw [show ρ 0 0 7 = nI F from hok.2.2.2.2.1]
    refine lv_icmp_ge (tgt := 43) hx hb dX5_shownOf_7 (by decide) (fun c_7 => ?_) (fun c_7 => ?_)
    · refine lv_iconst (v := (-1)) hx hb dX5_shownOf_43 (by decide) ?_
      exact W.iret (v := (-1)) hx hb hr (fun t ht hW9 => ⟨⟨(-1), ρ, rfl, ⟨hyp.symm, rfl⟩, by show mh_W D d.1 cB L _ A t.heap; rw [ht]; exact hW⟩, hS.F ht⟩) hS.2.2 dX5_shownOf_44
    · exact absurd (by rw [hnN]; exact nI_le (a := F) (b := F) (Nat.le_refl _) (by omega)) c_7
  | succ kk ih =>
    intro n hn hyp H locs hW hS ls hl
    have hnN : n < F := by omega
    have hF8 := hok.2.1
    refine lv_iload_n hx hb dX5_shownOf_2 rfl (lv_at hl 0 rfl) ?_
    refine lv_aload_n hx hb dX5_shownOf_3 rfl (lv_at hl 1 rfl) ?_
    refine mh_get hx hb hts (by decide +kernel) hown hKK.1 hW 7 (by decide) (hts (.fieldLink RX5 56 "WaxrowModel$House" "figureCount" "I") (by decide +kernel)) rfl (v := .int (ρ 0 0 7)) rfl dX5_shownOf_4 ?_
    rw [show ρ 0 0 7 = nI F from hok.2.2.2.2.1]
    refine lv_icmp_ge (tgt := 43) hx hb dX5_shownOf_7 (by decide) (fun c_7 => ?_) (fun c_7 => ?_)
    · exact absurd c_7 (nI_ge (b := F) hnN (by omega))
    · refine lv_aload_n hx hb dX5_shownOf_10 rfl (lv_at hl 1 rfl) ?_
      refine lv_aload_n hx hb dX5_shownOf_11 rfl (lv_at hl 1 rfl) ?_
      refine mh_get hx hb hts (by decide +kernel) hown hKK.1 hW 3 (by decide) (hts (.fieldLink RX5 22 "WaxrowModel$House" "figures" "[[I") (by decide +kernel)) rfl (v := .ref (L 4 0)) rfl dX5_shownOf_12 ?_
      refine lv_iload_n hx hb dX5_shownOf_15 rfl (lv_at hl 0 rfl) ?_
      refine mh_aald hx hb hKK.2.1 hW 4 n (by decide) (by decide) (by show n < mh_n 4; unfold mh_n; simp; omega) dX5_shownOf_16 ?_
      refine mh_calli (As := [.ref (L 14 n)]) ⟨hx, hb, hml, hown, hts⟩ (kX5_isShown l D d cB L ρ A H.size n (by omega)) (cwV 1 hts gX5_shownOf_X5_isShown rfl rfl rfl (by decide +kernel) ⟨Nat.le_of_ble_eq_true rfl, Nat.le_of_ble_eq_true rfl⟩) hKK hW hS rfl hl.1 (Nat.le_of_ble_eq_true rfl) dX5_shownOf_17 ⟨Nat.le_of_ble_eq_true rfl, Nat.le_of_ble_eq_true rfl⟩ rfl (fun r_ τ_ H locs hp hW hz hqq hS => ?_)
      obtain ⟨e1_, e2_⟩ := hp
      subst e1_ e2_
      refine lv_if_eq (tgt := 37) hx hb dX5_shownOf_20 (by decide) (fun c_20 => ?_) (fun c_20 => ?_)
      · refine lv_iinc (v := nI (n + 1)) (lv' := [(2, .int (nI (n + 1))), (0, .ref (L 0 0)), (1, .int q)]) hx hb dX5_shownOf_37 hl (k := 0) rfl (nI_succ _).symm (by decide) rfl (fun ls hl => ?_)
        refine lv_goto (tgt := 2) hx hb dX5_shownOf_40 (by decide) ?_
        exact ih (n + 1) (by omega) (by rw [← hyp]; show _ = mp_shownOf ρ q (kk + 1) n; rw [show mp_shownOf ρ q (kk + 1) n = mp_shownOf ρ q kk (n + 1) from by rw [mp_shownOf, if_pos c_20]]) _ _ hW hS ls (lv_sub hl [0, 1, 2] rfl)
      · refine lv_aload_n hx hb dX5_shownOf_23 rfl (lv_at hl 1 rfl) ?_
        refine mh_get hx hb hts (by decide +kernel) hown hKK.1 hW 3 (by decide) (hts (.fieldLink RX5 22 "WaxrowModel$House" "figures" "[[I") (by decide +kernel)) rfl (v := .ref (L 4 0)) rfl dX5_shownOf_24 ?_
        refine lv_iload_n hx hb dX5_shownOf_27 rfl (lv_at hl 0 rfl) ?_
        refine mh_aald hx hb hKK.2.1 hW 4 n (by decide) (by decide) (by show n < mh_n 4; unfold mh_n; simp; omega) dX5_shownOf_28 ?_
        refine lv_iconst (v := 0) hx hb dX5_shownOf_29 (by decide) ?_
        refine mh_iald hx hb hKK.1 hW 14 n (by decide) (mh_ixR (k := 4) (by decide) (by decide) (by show n < mh_n 4; unfold mh_n; simp; omega)) (i := 0) (by unfold vp_in; decide) dX5_shownOf_30 ?_
        rw [show (0 : Int32).toNatClampNeg = 0 from by decide]
        refine lv_iload_n hx hb dX5_shownOf_31 rfl (lv_at hl 2 rfl) ?_
        refine lv_icmp_ne (tgt := 37) hx hb dX5_shownOf_32 (by decide) (fun c_32 => ?_) (fun c_32 => ?_)
        · refine lv_iinc (v := nI (n + 1)) (lv' := [(2, .int (nI (n + 1))), (0, .ref (L 0 0)), (1, .int q)]) hx hb dX5_shownOf_37 hl (k := 0) rfl (nI_succ _).symm (by decide) rfl (fun ls hl => ?_)
          refine lv_goto (tgt := 2) hx hb dX5_shownOf_40 (by decide) ?_
          exact ih (n + 1) (by omega) (by rw [← hyp]; show _ = mp_shownOf ρ q (kk + 1) n; rw [show mp_shownOf ρ q (kk + 1) n = mp_shownOf ρ q kk (n + 1) from by rw [mp_shownOf, if_neg c_20, if_neg c_32]]) _ _ hW hS ls (lv_sub hl [0, 1, 2] rfl)
        · refine lv_iload_n hx hb dX5_shownOf_35 rfl (lv_at hl 0 rfl) ?_
          exact W.iret (v := nI n) hx hb hr (fun t ht hW9 => ⟨⟨nI n, ρ, rfl, ⟨by rw [← hyp, mp_shownOf, if_neg c_20, if_pos c_32], rfl⟩, by show mh_W D d.1 cB L _ A t.heap; rw [ht]; exact hW⟩, hS.F ht⟩) hS.2.2 dX5_shownOf_36
set_option maxHeartbeats 4000000 in
set_option maxRecDepth 100000 in
/-- the reference: X5_shownOf -/
theorem kX5_shownOf (l : Launch) (D : va_G) (d : hs_Dm) (cB : ClassId) (L : hs_Lo) (ρ : hs_St) (A : Nat → Prop) (sz : Nat) (P F R : Nat) (hok : mh_ok P F R ρ) (q : Int32) : mh_Mi l yX5_shownOf wsX5_shownOf ({ frames := 1, cells := 0, slots := 0, locals := 40 } : Room) D d cB L ρ A sz [.ref (L 0 0), .int q] (fun r τ => mp_shownOf ρ q F 0 = r ∧ ρ = τ) 0 0 := by
  refine Met.ofW (cc := cX5_shownOf) (maxL := 3) (ret := (some .int)) (by decide) rfl ?_
  intro p e s m args below meth c0 s₁ B hml hv
  obtain ⟨rfl, hsz, hW, hKK⟩ := hv
  have hx := B.exec
  have hb := B.bytes
  have hr := B.returns
  have hts := atoms_spec (ws := wsX5_shownOf) B.pre
  have hown : s.vm.findClass RX5 = some m.cls := findClass_of_methodNamed B.named
  have hlocks := B.notSynchronized
  have hS : va_S A s.heap s.heap [] := va_S.rf
  have hl := lv_entry ([.ref (L 0 0), .int q]) (n := 3) (Nat.le_of_ble_eq_true rfl)
  rw [lg_entry_eq]
  generalize (lg_sl ([.ref (L 0 0), .int q]) ++ List.replicate (3 - (lg_sl ([.ref (L 0 0), .int q])).length) Slot.unset).toArray = ls at hl ⊢
  have hl : lv_has ls 3 [(0, .ref (L 0 0)), (1, .int q)] := hl
  refine lv_iconst (v := 0) hx hb dX5_shownOf_0 (by decide) ?_
  refine lv_istore_n (lv' := [(2, .int 0), (0, .ref (L 0 0)), (1, .int q)]) hx hb dX5_shownOf_1 rfl hl (by decide) rfl (fun ls hl => ?_)
  exact lkX5_shownOf l D d cB L ρ A sz P F R hok q hx hb hr hts hown hlocks hml hKK F 0 (by omega) rfl _ _ hW hS ls (lv_sub hl [0, 1, 2] rfl)
