/-! THE REFERENCE: meltsNow, meltsIn, digest -/
def mp_md (ρ : hs_St) (P F f : Nat) (x z : Int32) : Nat → Nat → Int32
  | 0, _ => -1
  | k + 1, n => if (mp_days ρ P F x z (n + 1)).2 14 f 7 = 7 then nI (n + 1) else mp_md ρ P F f x z k (n + 1)
def mp_melts (ρ : hs_St) (P F f : Nat) (x z : Int32) : Int32 := if ρ 14 f 7 = 7 then -1 else mp_md ρ P F f x z 60 0
section MMC
variable {p : Program} {l : Launch} {e : Env} {R : Room} {s : State} {m : MethodId} {args : Array Value} {below : List Frame} {meth : Method} {c0 : Code} {H : Heap} {locs : List Loc} {cells slots : Nat} {Q : State → Prop}
variable {cc : ByteArray} {pc : Nat} {ls : Array Slot} {rest : List Value} {D : va_G} {d : hs_Dm} {cB : ClassId} {L : hs_Lo} {m0 : Nat} {th : Int32} {A : Nat → Prop} {ρ : hs_St} {nL na index : Nat} {Ts : List Cond} {own : String} {bytes : ByteArray} {maxL : Nat} {ret : Option FieldType} {st : List Value}
/-- the house, copied -/
theorem mm_copy (S : CallFix p m c0 cc nL s args Ts own) (cw : CallW R s args own RX5 index yX5_copy bytes maxL ret wsX5_copy ({ frames := 2, cells := 45, slots := 360, locals := 120 } : Room) 45 360 0) (hKK : mh_K D d cB s) (hAz : ∀ q, s.heap.size ≤ q → A q) (hM : mm_W D d cB L m0 th ρ A H) (hS : va_S A s.heap H locs) (hsize : ls.size = nL) (hrest : (rest.map fun v => v.category).sum ≤ 8) (hdg : decode cc pc = .ok (.invokevirtual index, 3)) (hf : cells + 45 ≤ R.cells ∧ slots + 360 ≤ R.slots) (hst : st = .ref (L 0 0) :: rest)
    (kk : ∀ (b : Nat) (H1 : Heap) (locs1 : List Loc), mm_W D d cB L m0 th ρ A H1 → mh_W D d.1 cB (mL b) ρ A H1 → (∀ k i, mh_ix k i → L k i < b) → m0 < b → (∀ q, b ≤ q → A q) → b ≤ H1.size → va_S A s.heap H1 locs1 → W p l e R s m args below meth c0 H1 locs1 (cells + 45) (slots + 360) Q (F0 m (pc + 3) ls (.ref (mL b 0 0) :: rest))) : W p l e R s m args below meth c0 H locs cells slots Q (F0 m pc ls st) := by
  subst hst
  have hA9 : ∀ q, H.size ≤ q → A q := fun q h => hAz q (Nat.le_trans hS.1 h)
  refine va_callr (va_runV (As := []) S (kX5_copy l D d cB L ρ A H.size) cw ⟨mh_blind, va_recv hKK.1 (mh_pO hM.2.1) (q0 := 0) (show vwCl[cMh]? = some (RX5, TX5, 14) from rfl) rfl, fun U hU hW9 => ⟨rfl, by rw [hU], by rw [hU]; exact hM.2.1, hKK.on hW9⟩⟩ rfl rfl hsize rfl (lv_room hrest) hdg hf) hS (fun q _ h => hA9 q h) (fun q h => hA9 q h) (fun u ra t H1 locs1 ht _ _ hB hz hq hS1 => ?_)
  obtain ⟨rfl, hB⟩ := hB
  have hB : mt_W D d cB L ρ A H.size ρ t.heap := hB
  rw [ht] at hB
  have oq : ∀ q : Nat, q < H.size → H1[q]? = H[q]? := fun q h => hq q h (Nat.not_le.mpr h)
  exact kk H.size H1 locs1 (hM.all oq) ⟨hB.2.1.1, fun k i _ => hA9 _ (Nat.le_add_right _ _), hB.2.1.2.2⟩ hB.2.2 hM.1.lt hA9 hz hS1
end MMC
theorem mm_getth {p : Program} {l : Launch} {e : Env} {R : Room} {s : State} {m : MethodId} {args : Array Value} {below : List Frame} {meth : Method} {c0 : Code} {H : Heap} {locs : List Loc} {cells slots : Nat} {Q : State → Prop} {cc : ByteArray} {pc : Nat} {ls : Array Slot} {rest : List Value} {D : va_G} {d : hs_Dm} {cB : ClassId} {L : hs_Lo} {m0 : Nat} {th : Int32} {A : Nat → Prop} {ρ : hs_St} {index : Nat} {Ts : List Cond} {own : String} (hexec : p.tables.exec = Jvm.exec) (hb : c0.code = cc) (hts : ∀ w ∈ Ts, w.before args s = true) (hin : ∀ w ∈ u_ws RX6 TX6 2, w ∈ Ts) (hown : s.vm.findClass own = some m.cls) (hK : va_K D vwCl (hs_ty d) s) (hM : mm_W D d cB L m0 th ρ A H) (hlink : (Cond.fieldLink own index RX6 (TX6 0).2.1 (TX6 0).2.2.1).before args s = true) (hdg : decode cc pc = .ok (.getfield index, 3))
    (kk : W p l e R s m args below meth c0 H locs cells slots Q (F0 m (pc + 3) ls (.int th :: rest))) : W p l e R s m args below meth c0 H locs cells slots Q (F0 m pc ls (.ref m0 :: rest)) :=
  va_get (D := D) (ci := cMm) (C := RX6) (T := TX6) (N := 2) hexec hb hts hin hown hK (mm_P hM.1) 0 rfl rfl 0 (by decide) hlink (fun x h => h) (v := .int th) rfl hdg kk
set_option maxHeartbeats 4000000 in
set_option maxRecDepth 100000 in
/-- the reference: meltsNow: the loop at 31 -/
theorem lkX6_meltsNow (l : Launch) (D : va_G) (d : hs_Dm) (cB : ClassId) (L : hs_Lo) (m0 : Nat) (th : Int32) (ρ : hs_St) (A : Nat → Prop) (sz : Nat) (P F R : Nat) (hok : mh_ok P F R ρ) (f : Nat) (hf : f < F) (x z : Int32) (b : Nat) (hlt : ∀ k i, mh_ix k i → L k i < b) (hm0 : m0 < b) (hAb : ∀ q, b ≤ q → A q) {p : Program} {e : Env} {s : State} {m : MethodId} {args : Array Value} {below : List Frame} {meth : Method} {c0 : Code} (hx : p.tables.exec = Jvm.exec) (hb : c0.code = cX6_meltsNow) (hr : meth.sig.returnType = (some .int)) (hts : ∀ w ∈ wsX6_meltsNow, w.before args s = true) (hown : s.vm.findClass RX6 = some m.cls) (hlocks : meth.locks = false) (hml : c0.maxLocals = 6) (hKK : mh_K D d cB s) (hAz : ∀ q, s.heap.size ≤ q → A q) : ∀ (kk n : Nat), n + kk = 60 → mp_md ρ P F f x z kk n = mp_md ρ P F f x z 60 0 → ∀ (H : Heap) (locs : List Loc), mm_W D d cB L m0 th ρ A H → mh_W D d.1 cB (mL b) (mp_days ρ P F x z n).2 A H → va_S A s.heap H locs → ∀ ls : Array Slot, lv_has ls 6 [(5, .int (nI (n + 1))), (4, .ref (mL b 0 0)), (0, .ref m0), (1, .int (nI f)), (2, .int x), (3, .int z)] → W p l e ({ frames := 6, cells := 153, slots := 1176, locals := 250 } : Room) s m args below meth c0 H locs (45 + n + (mp_pot ρ F - mp_pot (mp_days ρ P F x z n).2 F)) (360 + 8 * n + 7 * (mp_pot ρ F - mp_pot (mp_days ρ P F x z n).2 F)) (MQ below (va_Qi (fun r X => mp_md ρ P F f x z 60 0 = r ∧ th = X.1 ∧ ρ = X.2) (fun (X : mm_X) t => mm_W D d cB L m0 X.1 X.2 A t.heap) A) args s 153 1176 A) (F0 m 31 ls []) := by
  intro kk
  induction kk with
  | zero =>
    intro n hn hyp H locs hM hW2 hS ls hl
    have hnN : n = 60 := by omega
    have h8 := hok.2.1
    have hp1 := mp_pot_le ρ F
    have hp2 := mp_days_pot hok x z n
    refine lv_iload hx hb dX6_meltsNow_31 (lv_at hl 0 rfl) ?_
    refine lv_bipush (v := 60) hx hb dX6_meltsNow_33 (by decide) ?_
    refine lv_icmp_gt (tgt := 70) hx hb dX6_meltsNow_35 (by decide) (fun c_35 => ?_) (fun c_35 => ?_)
    · refine lv_iconst (v := (-1)) hx hb dX6_meltsNow_70 (by decide) ?_
      refine W.widen (k := 153) (n := 1176) (by omega) (by omega) ?_
      exact W.iret (v := (-1)) hx hb hr (fun t ht hW9 => ⟨⟨(-1), (th, ρ), rfl, ⟨hyp.symm, rfl, rfl⟩, by show mm_W D d cB L m0 _ _ A t.heap; rw [ht]; exact hM⟩, hS.F ht⟩) hS.2.2 dX6_meltsNow_71
    · exact absurd (show (60 : Int32) < nI (n + 1) by rw [hnN]; decide) c_35
  | succ kk ih =>
    intro n hn hyp H locs hM hW2 hS ls hl
    have hnN : n < 60 := by omega
    have hp3 := mp_go_pot (hok.days x z n) x z
    have hp4 : mp_pot (mp_days ρ P F x z (n + 1)).2 F = mp_pot (mp_go (mp_days ρ P F x z n).2 P F x z).2 F := rfl
    have h8 := hok.2.1
    have hp1 := mp_pot_le ρ F
    have hp2 := mp_days_pot hok x z n
    refine lv_iload hx hb dX6_meltsNow_31 (lv_at hl 0 rfl) ?_
    refine lv_bipush (v := 60) hx hb dX6_meltsNow_33 (by decide) ?_
    refine lv_icmp_gt (tgt := 70) hx hb dX6_meltsNow_35 (by decide) (fun c_35 => ?_) (fun c_35 => ?_)
    · exact absurd c_35 (by rw [show (60 : Int32) = nI 60 from by decide +kernel]; exact nI_nlt (show n + 1 ≤ 60 by omega) (by omega))
    · refine lv_aload hx hb dX6_meltsNow_38 (lv_at hl 1 rfl) ?_
      refine lv_iload_n hx hb dX6_meltsNow_40 rfl (lv_at hl 4 rfl) ?_
      refine lv_iload_n hx hb dX6_meltsNow_41 rfl (lv_at hl 5 rfl) ?_
      refine mh_calln (L := mL b) (As := [.int x, .int z]) ⟨hx, hb, hml, hown, hts⟩ (kX5_go l D d cB (mL b) (mh_ownN (mL b) H.size) H.size (mh_ownN_A (mL b) H.size) P F R (mp_days ρ P F x z n).2 (hok.days x z n) x z) (cwV 2 hts gX6_meltsNow_X5_go rfl rfl rfl (by decide +kernel) ⟨Nat.le_of_ble_eq_true rfl, Nat.le_of_ble_eq_true rfl⟩) hKK hAz hW2 hS rfl hl.1 (Nat.le_of_ble_eq_true rfl) dX6_meltsNow_42 ⟨by show (45 + n + (mp_pot ρ F - mp_pot (mp_days ρ P F x z n).2 F)) + (1 + mp_wadvs (mp_dawn (mp_days ρ P F x z n).2 P) F) ≤ 153; omega, by show (360 + 8 * n + 7 * (mp_pot ρ F - mp_pot (mp_days ρ P F x z n).2 F)) + (8 + 7 * mp_wadvs (mp_dawn (mp_days ρ P F x z n).2 P) F) ≤ 1176; omega⟩ rfl (fun r_ τ_ H locs hp hW2 hz hqq hS => ?_)
      have et_ : (mp_days ρ P F x z (n + 1)).2 = τ_ := by show (mp_go (mp_days ρ P F x z n).2 P F x z).2 = τ_; rw [hp]
      subst et_
      have hM : mm_W D d cB L m0 th ρ A H := ⟨hM.1.kept (hqq _ hM.1.lt (fun ⟨k9, i9, hx9, e9⟩ => absurd hm0 (by have : b ≤ mL b k9 i9 := Nat.le_add_right _ _; omega))), hM.2.1.kept (fun q h1 ⟨k, i, hx9, e⟩ => hqq q h1 (fun ⟨k9, i9, hx8, e9⟩ => by have h2 := hlt k i hx9; have : b ≤ mL b k9 i9 := Nat.le_add_right _ _; omega)), hM.2.2⟩
      refine W.widen (k := (45 + (n + 1) + (mp_pot ρ F - mp_pot (mp_days ρ P F x z (n + 1)).2 F))) (n := (360 + 8 * (n + 1) + 7 * (mp_pot ρ F - mp_pot (mp_days ρ P F x z (n + 1)).2 F))) (by omega) (by omega) ?_
      refine lv_pop hx hb dX6_meltsNow_45 rfl ?_
      refine lv_aload hx hb dX6_meltsNow_46 (lv_at hl 1 rfl) ?_
      refine mh_get (L := mL b) hx hb hts (by decide +kernel) hown hKK.1 hW2 3 (by decide) (hts (.fieldLink RX6 60 "WaxrowModel$House" "figures" "[[I") (by decide +kernel)) rfl (v := .ref (mL b 4 0)) rfl dX6_meltsNow_48 ?_
      refine lv_iload_n hx hb dX6_meltsNow_51 rfl (lv_at hl 3 rfl) ?_
      refine mh_aald (L := mL b) hx hb hKK.2.1 hW2 4 f (by decide) (by decide) (by show f < mh_n 4; unfold mh_n; simp; omega) dX6_meltsNow_52 ?_
      refine lv_bipush (v := 7) hx hb dX6_meltsNow_53 (by decide) ?_
      refine mh_iald (L := mL b) hx hb hKK.1 hW2 14 f (by decide) (mh_ixR (k := 4) (by decide) (by decide) (by show f < mh_n 4; unfold mh_n; simp; omega)) (i := 7) (by unfold vp_in; decide) dX6_meltsNow_55 ?_
      rw [show (7 : Int32).toNatClampNeg = 7 from by decide]
      refine lv_bipush (v := 7) hx hb dX6_meltsNow_56 (by decide) ?_
      refine lv_icmp_ne (tgt := 64) hx hb dX6_meltsNow_58 (by decide) (fun c_58 => ?_) (fun c_58 => ?_)
      · refine lv_iinc (v := nI (n + 1 + 1)) (lv' := [(5, .int (nI ((n + 1) + 1))), (4, .ref (mL b 0 0)), (0, .ref m0), (1, .int (nI f)), (2, .int x), (3, .int z)]) hx hb dX6_meltsNow_64 hl (k := 0) rfl (nI_succ _).symm (by decide) rfl (fun ls hl => ?_)
        refine lv_goto (tgt := 31) hx hb dX6_meltsNow_67 (by decide) ?_
        exact ih (n + 1) (by omega) (by rw [← hyp, mp_md, if_neg c_58]) _ _ hM hW2 hS ls hl
      · refine lv_iload hx hb dX6_meltsNow_61 (lv_at hl 0 rfl) ?_
        refine W.widen (k := 153) (n := 1176) (by omega) (by omega) ?_
        exact W.iret (v := nI (n + 1)) hx hb hr (fun t ht hW9 => ⟨⟨nI (n + 1), (th, ρ), rfl, ⟨by rw [← hyp, mp_md, if_pos c_58], rfl, rfl⟩, by show mm_W D d cB L m0 _ _ A t.heap; rw [ht]; exact hM⟩, hS.F ht⟩) hS.2.2 dX6_meltsNow_63
set_option maxHeartbeats 4000000 in
set_option maxRecDepth 100000 in
/-- the reference: X6_meltsNow -/
theorem kX6_meltsNow (l : Launch) (D : va_G) (d : hs_Dm) (cB : ClassId) (L : hs_Lo) (m0 : Nat) (th : Int32) (ρ : hs_St) (A : Nat → Prop) (sz : Nat) (P F R : Nat) (hok : mh_ok P F R ρ) (f : Nat) (hf : f < F) (x z : Int32) (hA : mh_A A sz) : mm_Mi l yX6_meltsNow wsX6_meltsNow ({ frames := 6, cells := 153, slots := 1176, locals := 250 } : Room) D d cB L m0 th ρ A sz [.ref m0, .int (nI f), .int x, .int z] (fun r X => mp_melts ρ P F f x z = r ∧ th = X.1 ∧ ρ = X.2) 153 1176 := by
  refine Met.ofW (cc := cX6_meltsNow) (maxL := 6) (ret := (some .int)) (by decide) rfl ?_
  intro p e s m args below meth c0 s₁ B hml hv
  obtain ⟨rfl, hsz, hM, hKK⟩ := hv
  have hx := B.exec
  have hb := B.bytes
  have hr := B.returns
  have hts := atoms_spec (ws := wsX6_meltsNow) B.pre
  have hown : s.vm.findClass RX6 = some m.cls := findClass_of_methodNamed B.named
  have hlocks := B.notSynchronized
  have hS : va_S A s.heap s.heap [] := va_S.rf
  have hl := lv_entry ([.ref m0, .int (nI f), .int x, .int z]) (n := 6) (Nat.le_of_ble_eq_true rfl)
  rw [lg_entry_eq]
  generalize (lg_sl ([.ref m0, .int (nI f), .int x, .int z]) ++ List.replicate (6 - (lg_sl ([.ref m0, .int (nI f), .int x, .int z])).length) Slot.unset).toArray = ls at hl ⊢
  have hl : lv_has ls 6 [(0, .ref m0), (1, .int (nI f)), (2, .int x), (3, .int z)] := hl
  have hAz : ∀ q, s.heap.size ≤ q → A q := fun q h9 => hA q (by rw [hsz] at h9; exact h9)
  refine lv_aload_n hx hb dX6_meltsNow_0 rfl (lv_at hl 0 rfl) ?_
  refine mm_house hx hb hts (by decide +kernel) hown hKK.1 hM (hts (.fieldLink RX6 10 "WaxrowModel" "house" "LWaxrowModel$House;") (by decide +kernel)) dX6_meltsNow_1 ?_
  have hW := hM.2.1
  refine mh_get hx hb hts (by decide +kernel) hown hKK.1 hW 3 (by decide) (hts (.fieldLink RX6 60 "WaxrowModel$House" "figures" "[[I") (by decide +kernel)) rfl (v := .ref (L 4 0)) rfl dX6_meltsNow_4 ?_
  refine lv_iload_n hx hb dX6_meltsNow_7 rfl (lv_at hl 1 rfl) ?_
  refine mh_aald hx hb hKK.2.1 hW 4 f (by decide) (by decide) (by have := hok.2.1; show f < mh_n 4; unfold mh_n; simp; omega) dX6_meltsNow_8 ?_
  refine lv_bipush (v := 7) hx hb dX6_meltsNow_9 (by decide) ?_
  refine mh_iald hx hb hKK.1 hW 14 f (by decide) (mh_ixR (k := 4) (by decide) (by decide) (by have := hok.2.1; show f < mh_n 4; unfold mh_n; simp; omega)) (i := 7) (by unfold vp_in; decide) dX6_meltsNow_11 ?_
  rw [show (7 : Int32).toNatClampNeg = 7 from by decide]
  refine lv_bipush (v := 7) hx hb dX6_meltsNow_12 (by decide) ?_
  refine lv_icmp_ne (tgt := 19) hx hb dX6_meltsNow_14 (by decide) (fun c_14 => ?_) (fun c_14 => ?_)
  · refine lv_aload_n hx hb dX6_meltsNow_19 rfl (lv_at hl 0 rfl) ?_
    refine mm_house hx hb hts (by decide +kernel) hown hKK.1 hM (hts (.fieldLink RX6 10 "WaxrowModel" "house" "LWaxrowModel$House;") (by decide +kernel)) dX6_meltsNow_20 ?_
    refine mm_copy ⟨hx, hb, hml, hown, hts⟩ (cwV 0 hts gX6_meltsNow_X5_copy rfl rfl rfl (by decide +kernel) ⟨Nat.le_of_ble_eq_true rfl, Nat.le_of_ble_eq_true rfl⟩) hKK hAz hM hS hl.1 (Nat.le_of_ble_eq_true rfl) dX6_meltsNow_23 ⟨Nat.le_of_ble_eq_true rfl, Nat.le_of_ble_eq_true rfl⟩ rfl (fun b H locs hM hW2 hlt hm0 hAb hbz hS => ?_)
    refine lv_astore (lv' := [(4, .ref (mL b 0 0)), (0, .ref m0), (1, .int (nI f)), (2, .int x), (3, .int z)]) hx hb dX6_meltsNow_26 hl (by decide) rfl (fun ls hl => ?_)
    refine lv_iconst (v := 1) hx hb dX6_meltsNow_28 (by decide) ?_
    refine lv_istore (lv' := [(5, .int (nI (0 + 1))), (4, .ref (mL b 0 0)), (0, .ref m0), (1, .int (nI f)), (2, .int x), (3, .int z)]) hx hb dX6_meltsNow_29 hl (by decide) rfl (fun ls hl => ?_)
    refine W.widen (k := (45 + 0 + (mp_pot ρ F - mp_pot (mp_days ρ P F x z 0).2 F))) (n := (360 + 8 * 0 + 7 * (mp_pot ρ F - mp_pot (mp_days ρ P F x z 0).2 F))) (by omega) (by omega) ?_
    rw [show mp_melts ρ P F f x z = mp_md ρ P F f x z 60 0 from if_neg c_14]
    exact lkX6_meltsNow l D d cB L m0 th ρ A sz P F R hok f hf x z b hlt hm0 hAb hx hb hr hts hown hlocks hml hKK hAz 60 0 (by omega) rfl _ _ hM hW2 hS ls hl
  · refine lv_iconst (v := (-1)) hx hb dX6_meltsNow_17 (by decide) ?_
    refine W.widen (k := 153) (n := 1176) (by omega) (by omega) ?_
    exact W.iret (v := (-1)) hx hb hr (fun t ht hW9 => ⟨⟨(-1), (th, ρ), rfl, (by refine ⟨?_, rfl, rfl⟩; unfold mp_melts; rw [if_pos c_14]), by show mm_W D d cB L m0 _ _ A t.heap; rw [ht]; exact hM⟩, hS.F ht⟩) hS.2.2 dX6_meltsNow_18
def mp_meltsInP (P F : Nat) (ρ : hs_St) (x y z : Int32) (r : Int32) (X : mm_X) : Prop := if mp_in x 0 (nI F - 1) = 0 then ((0 : Int32) = r ∧ (1 : Int32) = X.1 ∧ ρ = X.2) else if mp_in y 0 2000 = 0 then ((0 : Int32) = r ∧ (2 : Int32) = X.1 ∧ ρ = X.2) else if mp_in z 0 40 = 0 then ((0 : Int32) = r ∧ (2 : Int32) = X.1 ∧ ρ = X.2) else (mp_melts ρ P F x.toNatClampNeg y z = r ∧ (0 : Int32) = X.1 ∧ ρ = X.2)
set_option maxHeartbeats 4000000 in
set_option maxRecDepth 100000 in
/-- the reference: X6_meltsIn -/
theorem kX6_meltsIn (l : Launch) (D : va_G) (d : hs_Dm) (cB : ClassId) (L : hs_Lo) (m0 : Nat) (th : Int32) (ρ : hs_St) (A : Nat → Prop) (sz : Nat) (P F R : Nat) (hok : mh_ok P F R ρ) (x y z : Int32) (hA : mh_A A sz) : mm_Mi l yX6_meltsIn wsX6_meltsIn ({ frames := 7, cells := 153, slots := 1176, locals := 290 } : Room) D d cB L m0 th ρ A sz [.ref m0, .int x, .int y, .int z] (fun r X => mp_meltsInP P F ρ x y z r X) 153 1176 := by
  refine Met.ofW (cc := cX6_meltsIn) (maxL := 4) (ret := (some .int)) (by decide) rfl ?_
  intro p e s m args below meth c0 s₁ B hml hv
  obtain ⟨rfl, hsz, hM, hKK⟩ := hv
  have hx := B.exec
  have hb := B.bytes
  have hr := B.returns
  have hts := atoms_spec (ws := wsX6_meltsIn) B.pre
  have hown : s.vm.findClass RX6 = some m.cls := findClass_of_methodNamed B.named
  have hlocks := B.notSynchronized
  have hS : va_S A s.heap s.heap [] := va_S.rf
  have hl := lv_entry ([.ref m0, .int x, .int y, .int z]) (n := 4) (Nat.le_of_ble_eq_true rfl)
  rw [lg_entry_eq]
  generalize (lg_sl ([.ref m0, .int x, .int y, .int z]) ++ List.replicate (4 - (lg_sl ([.ref m0, .int x, .int y, .int z])).length) Slot.unset).toArray = ls at hl ⊢
  have hl : lv_has ls 4 [(0, .ref m0), (1, .int x), (2, .int y), (3, .int z)] := hl
  have hAz : ∀ q, s.heap.size ≤ q → A q := fun q h9 => hA q (by rw [hsz] at h9; exact h9)
  refine lv_aload_n hx hb dX6_meltsIn_0 rfl (lv_at hl 0 rfl) ?_
  refine lv_iconst (v := 0) hx hb dX6_meltsIn_1 (by decide) ?_
  refine mm_putt hx hb hts (by decide +kernel) hown hKK.1 hM hS (hts (.fieldLink RX6 16 "WaxrowModel" "thrown" "I") (by decide +kernel)) (0 : Int32) dX6_meltsIn_2 (fun H locs hM hS hz => ?_)
  have hM : mm_W D d cB L m0 0 ρ A H := hM
  have hW := hM.2.1
  refine lv_aload_n hx hb dX6_meltsIn_5 rfl (lv_at hl 0 rfl) ?_
  refine lv_iload_n hx hb dX6_meltsIn_6 rfl (lv_at hl 1 rfl) ?_
  refine mm_calli (As := [.int x]) ⟨hx, hb, hml, hown, hts⟩ (kX6_isFigure l D d cB L m0 (0 : Int32) ρ A H.size P F R hok x) (cwV 1 hts gX6_meltsIn_X6_isFigure rfl rfl rfl (by decide +kernel) ⟨Nat.le_of_ble_eq_true rfl, Nat.le_of_ble_eq_true rfl⟩) hKK hM hS rfl hl.1 (Nat.le_of_ble_eq_true rfl) dX6_meltsIn_7 ⟨Nat.le_of_ble_eq_true rfl, Nat.le_of_ble_eq_true rfl⟩ rfl (fun r_ X_ H locs hp hM hz hS => ?_)
  obtain ⟨t_, τ_⟩ := X_
  obtain ⟨e1_, e2_, e3_⟩ := hp
  have e2_ : (0 : Int32) = t_ := e2_
  have e3_ : ρ = τ_ := e3_
  subst e1_ e2_ e3_
  have hM : mm_W D d cB L m0 0 ρ A H := hM
  have hW := hM.2.1
  refine lv_if_ne (tgt := 19) hx hb dX6_meltsIn_10 (by decide) (fun c_10 => ?_) (fun c_10 => ?_)
  · refine lv_iload_n hx hb dX6_meltsIn_19 rfl (lv_at hl 2 rfl) ?_
    refine lv_iconst (v := 0) hx hb dX6_meltsIn_20 (by decide) ?_
    refine lv_sipush (v := 2000) hx hb dX6_meltsIn_21 (by decide) ?_
    refine mm_pure (As := [.int y, .int 0, .int 2000]) ⟨hx, hb, hml, hown, hts⟩ (kX6_in l (y) (0) (2000)) (va_cwS 3 hts gX6_meltsIn_X6_in rfl rfl rfl (by decide +kernel) ⟨Nat.le_of_ble_eq_true rfl, Nat.le_of_ble_eq_true rfl⟩) hM hS rfl hl.1 (Nat.le_of_ble_eq_true rfl) dX6_meltsIn_24 ⟨Nat.le_of_ble_eq_true rfl, Nat.le_of_ble_eq_true rfl⟩ rfl (fun r_ H locs hp hM hz hS => ?_)
    subst hp
    have hM : mm_W D d cB L m0 0 ρ A H := hM
    have hW := hM.2.1
    refine lv_if_eq (tgt := 40) hx hb dX6_meltsIn_27 (by decide) (fun c_27 => ?_) (fun c_27 => ?_)
    · refine lv_aload_n hx hb dX6_meltsIn_40 rfl (lv_at hl 0 rfl) ?_
      refine lv_iconst (v := 2) hx hb dX6_meltsIn_41 (by decide) ?_
      refine mm_calli (As := [.int 2]) ⟨hx, hb, hml, hown, hts⟩ (kX6_no l D d cB L m0 (0 : Int32) ρ A H.size 2) (cwV 1 hts gX6_meltsIn_X6_no rfl rfl rfl (by decide +kernel) ⟨Nat.le_of_ble_eq_true rfl, Nat.le_of_ble_eq_true rfl⟩) hKK hM hS rfl hl.1 (Nat.le_of_ble_eq_true rfl) dX6_meltsIn_42 ⟨Nat.le_of_ble_eq_true rfl, Nat.le_of_ble_eq_true rfl⟩ rfl (fun r_ X_ H locs hp hM hz hS => ?_)
      obtain ⟨t_, τ_⟩ := X_
      obtain ⟨e1_, e2_, e3_⟩ := hp
      have e2_ : (2 : Int32) = t_ := e2_
      have e3_ : ρ = τ_ := e3_
      subst e1_ e2_ e3_
      have hM : mm_W D d cB L m0 2 ρ A H := hM
      have hW := hM.2.1
      refine W.widen (k := 153) (n := 1176) (by omega) (by omega) ?_
      exact W.iret (v := 0) hx hb hr (fun t ht hW9 => ⟨⟨0, (2, ρ), rfl, (by show mp_meltsInP P F ρ x y z _ _; unfold mp_meltsInP; rw [if_neg c_10, if_pos c_27]; exact ⟨rfl, rfl, rfl⟩), by show mm_W D d cB L m0 _ _ A t.heap; rw [ht]; exact hM⟩, hS.F ht⟩) hS.2.2 dX6_meltsIn_45
    · refine lv_iload_n hx hb dX6_meltsIn_30 rfl (lv_at hl 3 rfl) ?_
      refine lv_iconst (v := 0) hx hb dX6_meltsIn_31 (by decide) ?_
      refine lv_bipush (v := 40) hx hb dX6_meltsIn_32 (by decide) ?_
      refine mm_pure (As := [.int z, .int 0, .int 40]) ⟨hx, hb, hml, hown, hts⟩ (kX6_in l (z) (0) (40)) (va_cwS 3 hts gX6_meltsIn_X6_in rfl rfl rfl (by decide +kernel) ⟨Nat.le_of_ble_eq_true rfl, Nat.le_of_ble_eq_true rfl⟩) hM hS rfl hl.1 (Nat.le_of_ble_eq_true rfl) dX6_meltsIn_34 ⟨Nat.le_of_ble_eq_true rfl, Nat.le_of_ble_eq_true rfl⟩ rfl (fun r_ H locs hp hM hz hS => ?_)
      subst hp
      have hM : mm_W D d cB L m0 0 ρ A H := hM
      have hW := hM.2.1
      refine lv_if_ne (tgt := 46) hx hb dX6_meltsIn_37 (by decide) (fun c_37 => ?_) (fun c_37 => ?_)
      · have hb9 : F ≤ 8 := hok.2.1
        obtain ⟨j, hj9, ej9⟩ := mp_in_ix (by omega) c_10
        subst ej9
        have hj : j < F := hj9
        have hclj := nI_clamp (n := j) (by omega)
        refine lv_aload_n hx hb dX6_meltsIn_46 rfl (lv_at hl 0 rfl) ?_
        refine lv_iload_n hx hb dX6_meltsIn_47 rfl (lv_at hl 1 rfl) ?_
        refine lv_iload_n hx hb dX6_meltsIn_48 rfl (lv_at hl 2 rfl) ?_
        refine lv_iload_n hx hb dX6_meltsIn_49 rfl (lv_at hl 3 rfl) ?_
        refine mm_calli (As := [.int (nI j), .int y, .int z]) ⟨hx, hb, hml, hown, hts⟩ (kX6_meltsNow l D d cB L m0 (0 : Int32) ρ A H.size P F R hok j (by omega) (y : Int32) (z : Int32) (fun q h => hAz q (Nat.le_trans hS.1 h))) (cwV 3 hts gX6_meltsIn_X6_meltsNow rfl rfl rfl (by decide +kernel) ⟨Nat.le_of_ble_eq_true rfl, Nat.le_of_ble_eq_true rfl⟩) hKK hM hS rfl hl.1 (Nat.le_of_ble_eq_true rfl) dX6_meltsIn_50 ⟨Nat.le_of_ble_eq_true rfl, Nat.le_of_ble_eq_true rfl⟩ rfl (fun r_ X_ H locs hp hM hz hS => ?_)
        obtain ⟨t_, τ_⟩ := X_
        obtain ⟨e1_, e2_, e3_⟩ := hp
        have e2_ : (0 : Int32) = t_ := e2_
        have e3_ : ρ = τ_ := e3_
        subst e1_ e2_ e3_
        have hM : mm_W D d cB L m0 0 ρ A H := hM
        have hW := hM.2.1
        refine W.widen (k := 153) (n := 1176) (by omega) (by omega) ?_
        exact W.iret (v := mp_melts ρ P F j y z) hx hb hr (fun t ht hW9 => ⟨⟨mp_melts ρ P F j y z, (0, ρ), rfl, (by show mp_meltsInP P F ρ (nI j) y z _ _; unfold mp_meltsInP; rw [if_neg c_10, if_neg c_27, if_neg c_37, hclj]; exact ⟨rfl, rfl, rfl⟩), by show mm_W D d cB L m0 _ _ A t.heap; rw [ht]; exact hM⟩, hS.F ht⟩) hS.2.2 dX6_meltsIn_53
      · refine lv_aload_n hx hb dX6_meltsIn_40 rfl (lv_at hl 0 rfl) ?_
        refine lv_iconst (v := 2) hx hb dX6_meltsIn_41 (by decide) ?_
        refine mm_calli (As := [.int 2]) ⟨hx, hb, hml, hown, hts⟩ (kX6_no l D d cB L m0 (0 : Int32) ρ A H.size 2) (cwV 1 hts gX6_meltsIn_X6_no rfl rfl rfl (by decide +kernel) ⟨Nat.le_of_ble_eq_true rfl, Nat.le_of_ble_eq_true rfl⟩) hKK hM hS rfl hl.1 (Nat.le_of_ble_eq_true rfl) dX6_meltsIn_42 ⟨Nat.le_of_ble_eq_true rfl, Nat.le_of_ble_eq_true rfl⟩ rfl (fun r_ X_ H locs hp hM hz hS => ?_)
        obtain ⟨t_, τ_⟩ := X_
        obtain ⟨e1_, e2_, e3_⟩ := hp
        have e2_ : (2 : Int32) = t_ := e2_
        have e3_ : ρ = τ_ := e3_
        subst e1_ e2_ e3_
        have hM : mm_W D d cB L m0 2 ρ A H := hM
        have hW := hM.2.1
        refine W.widen (k := 153) (n := 1176) (by omega) (by omega) ?_
        exact W.iret (v := 0) hx hb hr (fun t ht hW9 => ⟨⟨0, (2, ρ), rfl, (by show mp_meltsInP P F ρ x y z _ _; unfold mp_meltsInP; rw [if_neg c_10, if_neg c_27, if_pos c_37]; exact ⟨rfl, rfl, rfl⟩), by show mm_W D d cB L m0 _ _ A t.heap; rw [ht]; exact hM⟩, hS.F ht⟩) hS.2.2 dX6_meltsIn_45
  · refine lv_aload_n hx hb dX6_meltsIn_13 rfl (lv_at hl 0 rfl) ?_
    refine lv_iconst (v := 1) hx hb dX6_meltsIn_14 (by decide) ?_
    refine mm_calli (As := [.int 1]) ⟨hx, hb, hml, hown, hts⟩ (kX6_no l D d cB L m0 (0 : Int32) ρ A H.size 1) (cwV 1 hts gX6_meltsIn_X6_no rfl rfl rfl (by decide +kernel) ⟨Nat.le_of_ble_eq_true rfl, Nat.le_of_ble_eq_true rfl⟩) hKK hM hS rfl hl.1 (Nat.le_of_ble_eq_true rfl) dX6_meltsIn_15 ⟨Nat.le_of_ble_eq_true rfl, Nat.le_of_ble_eq_true rfl⟩ rfl (fun r_ X_ H locs hp hM hz hS => ?_)
    obtain ⟨t_, τ_⟩ := X_
    obtain ⟨e1_, e2_, e3_⟩ := hp
    have e2_ : (1 : Int32) = t_ := e2_
    have e3_ : ρ = τ_ := e3_
    subst e1_ e2_ e3_
    have hM : mm_W D d cB L m0 1 ρ A H := hM
    have hW := hM.2.1
    refine W.widen (k := 153) (n := 1176) (by omega) (by omega) ?_
    exact W.iret (v := 0) hx hb hr (fun t ht hW9 => ⟨⟨0, (1, ρ), rfl, (by show mp_meltsInP P F ρ x y z _ _; unfold mp_meltsInP; rw [if_pos c_10]; exact ⟨rfl, rfl, rfl⟩), by show mm_W D d cB L m0 _ _ A t.heap; rw [ht]; exact hM⟩, hS.F ht⟩) hS.2.2 dX6_meltsIn_18
def mp_gM (ρ : hs_St) (P F R : Nat) : Nat → Int64
  | 0 => 58234
  | n + 1 => sp_h (mp_gM ρ P F R n) (mp_mnow ρ P F R n)
def mp_gP (ρ : hs_St) (F q : Nat) (g : Int64) : Nat → Int64
  | 0 => g
  | n + 1 => sp_h (mp_gP ρ F q g n) (mp_pnow ρ F q n)
def mp_gK (ρ : hs_St) (q : Nat) (g : Int64) : Nat → Int64
  | 0 => g
  | n + 1 => sp_h (sp_h (mp_gK ρ q g n) (ρ 12 q n)) (ρ 13 q n)
def mp_gPs (ρ : hs_St) (F : Nat) (g : Int64) : Nat → Int64
  | 0 => g
  | n + 1 => sp_h (mp_gK ρ n (mp_gP ρ F n (mp_gPs ρ F g n) 11) 6) (mp_fame ρ n 0 9)
def mp_gF (ρ : hs_St) (f : Nat) (g : Int64) : Nat → Int64
  | 0 => g
  | n + 1 => sp_h (mp_gF ρ f g n) (mp_fnow ρ f n)
def mp_gFs (ρ : hs_St) (P F : Nat) (g : Int64) : Nat → Int64
  | 0 => g
  | n + 1 => sp_h (sp_h (mp_gF ρ n (mp_gFs ρ P F g n) 12) (mp_ready ρ n)) (mp_melts ρ P F n 900 30)
def mp_gR (ρ : hs_St) (F b : Nat) (g : Int64) : Nat → Int64
  | 0 => g
  | n + 1 => sp_h (mp_gR ρ F b g n) (mp_rnow ρ F b n)
def mp_gRs (ρ : hs_St) (F : Nat) (g : Int64) : Nat → Int64
  | 0 => g
  | n + 1 => mp_gR ρ F n (mp_gRs ρ F g n) 4
def mp_dig (ρ : hs_St) (P F R : Nat) : Int64 := sp_h (mp_gRs ρ F (mp_gFs ρ P F (mp_gPs ρ F (mp_gM ρ P F R 15) P) F) R) (mp_bi (mp_next ρ F P))
set_option maxHeartbeats 4000000 in
set_option maxRecDepth 100000 in
/-- the reference: X6_digest: the loop at 11 -/
theorem lkX6_digest11 (l : Launch) (D : va_G) (d : hs_Dm) (cB : ClassId) (L : hs_Lo) (m0 : Nat) (th : Int32) (ρ : hs_St) (A : Nat → Prop) (sz : Nat) (P F R : Nat) (hok : mh_ok P F R ρ) {p : Program} {e : Env} {s : State} {m : MethodId} {args : Array Value} {below : List Frame} {meth : Method} {c0 : Code} (hx : p.tables.exec = Jvm.exec) (hb : c0.code = cX6_digest) (hr : meth.sig.returnType = (some .long)) (hts : ∀ w ∈ wsX6_digest, w.before args s = true) (hown : s.vm.findClass RX6 = some m.cls) (hlocks : meth.locks = false) (hml : c0.maxLocals = 5) (hKK : mh_K D d cB s) {Q : State → Prop} (kK : ∀ (H : Heap) (locs : List Loc), mm_W D d cB L m0 0 ρ A H → va_S A s.heap H locs → ∀ ls : Array Slot, lv_has ls 5 [(1, .long (mp_gM ρ P F R 15)), (0, .ref m0)] → W p l e (({ frames := 8, cells := 1425, slots := 11415, locals := 320 } : Room)) s m args below meth c0 H locs 15 (15 * 15) Q (F0 m 36 ls [])) : ∀ (kk n : Nat), n + kk = 15 → (∀ q, s.heap.size ≤ q → A q) → ∀ (H : Heap) (locs : List Loc), mm_W D d cB L m0 0 ρ A H → va_S A s.heap H locs → ∀ ls : Array Slot, lv_has ls 5 [(3, .int (nI n)), (1, .long (mp_gM ρ P F R n)), (0, .ref m0)] → W p l e (({ frames := 8, cells := 1425, slots := 11415, locals := 320 } : Room)) s m args below meth c0 H locs n (15 * n) Q (F0 m 11 ls []) := by
  intro kk
  induction kk with
  | zero =>
    intro n hn hAz H locs hM hS ls hl
    have hnN : n = 15 := by omega
    have hW := hM.2.1
    have h10 := hok.1
    have hF8 := hok.2.1
    have hR5 := hok.2.2.1
    refine lv_iload_n hx hb dX6_digest_11 rfl (lv_at hl 0 rfl) ?_
    refine lv_bipush (v := 14) hx hb dX6_digest_12 (by decide) ?_
    refine lv_icmp_gt (tgt := 36) hx hb dX6_digest_14 (by decide) (fun c_14 => ?_) (fun c_14 => ?_)
    · subst hnN
      exact kK _ _ hM hS ls (lv_sub hl [1, 2] rfl)
    · exact absurd (show (14 : Int32) < nI n by rw [hnN]; decide) c_14
  | succ kk ih =>
    intro n hn hAz H locs hM hS ls hl
    have hnN : n < 15 := by omega
    have hW := hM.2.1
    have h10 := hok.1
    have hF8 := hok.2.1
    have hR5 := hok.2.2.1
    refine lv_iload_n hx hb dX6_digest_11 rfl (lv_at hl 0 rfl) ?_
    refine lv_bipush (v := 14) hx hb dX6_digest_12 (by decide) ?_
    refine lv_icmp_gt (tgt := 36) hx hb dX6_digest_14 (by decide) (fun c_14 => ?_) (fun c_14 => ?_)
    · exact absurd c_14 (by rw [show (14 : Int32) = nI 14 from by decide +kernel]; exact nI_nlt (show n ≤ 14 by omega) (by omega))
    · refine lv_lload_n hx hb dX6_digest_17 rfl (lv_at hl 1 rfl) ?_
      refine lv_ldc2 (v := 31) hx hb hown (hts (.constantLong RX6 181 31) (by decide +kernel)) dX6_digest_18 ?_
      refine lv_lmul hx hb dX6_digest_21 ?_
      refine lv_aload_n hx hb dX6_digest_22 rfl (lv_at hl 2 rfl) ?_
      refine lv_iload_n hx hb dX6_digest_23 rfl (lv_at hl 0 rfl) ?_
      refine mm_calli (As := [.int (nI n)]) ⟨hx, hb, hml, hown, hts⟩ (kX6_manyNow l D d cB L m0 (0 : Int32) ρ A H.size P F R hok n (by omega) (fun q h => hAz q (Nat.le_trans hS.1 h))) (cwV 1 hts gX6_digest_X6_manyNow rfl rfl rfl (by decide +kernel) ⟨Nat.le_of_ble_eq_true rfl, Nat.le_of_ble_eq_true rfl⟩) hKK hM hS rfl hl.1 (Nat.le_of_ble_eq_true rfl) dX6_digest_24 ⟨by show _ ≤ 1425; omega, by show _ ≤ 11415; omega⟩ rfl (fun r_ X_ H locs hp hM hz hS => ?_)
      obtain ⟨t_, τ_⟩ := X_
      obtain ⟨e1_, e2_, e3_⟩ := hp
      have e2_ : (0 : Int32) = t_ := e2_
      have e3_ : ρ = τ_ := e3_
      subst e1_ e2_ e3_
      have hM : mm_W D d cB L m0 0 ρ A H := hM
      have hW := hM.2.1
      refine lv_i2l hx hb dX6_digest_27 rfl ?_
      refine lv_ladd hx hb dX6_digest_28 ?_
      refine lv_lstore_n (lv' := [(1, .long (((mp_gM ρ P F R n) * 31) + ((mp_mnow ρ P F R n).toInt64))), (3, .int (nI n)), (0, .ref m0)]) hx hb dX6_digest_29 rfl hl (by decide) rfl (fun ls hl => ?_)
      refine lv_iinc (v := nI (n + 1)) (lv' := [(3, .int (nI (n + 1))), (1, .long (((mp_gM ρ P F R n) * 31) + ((mp_mnow ρ P F R n).toInt64))), (0, .ref m0)]) hx hb dX6_digest_30 hl (k := 1) rfl (nI_succ _).symm (by decide) rfl (fun ls hl => ?_)
      refine lv_goto (tgt := 11) hx hb dX6_digest_33 (by decide) ?_
      have hM : mm_W D d cB L m0 0 ρ A H := hM
      refine W.widen (k := (n + 1)) (n := (15 * (n + 1))) (by omega) (by omega) ?_
      exact ih (n + 1) (by omega) hAz _ _ hM hS ls (lv_sub hl [0, 1, 2] rfl)
set_option maxHeartbeats 4000000 in
set_option maxRecDepth 100000 in
/-- the reference: X6_digest: the loop at 52 -/
theorem lkX6_digest52 (l : Launch) (D : va_G) (d : hs_Dm) (cB : ClassId) (L : hs_Lo) (m0 : Nat) (th : Int32) (ρ : hs_St) (A : Nat → Prop) (sz : Nat) (P F R : Nat) (hok : mh_ok P F R ρ) (q : Nat) (hq : q < P) (g : Int64) (c9 s9 : Nat) (hc9 : c9 ≤ 1425) (hs9 : s9 ≤ 11415) {p : Program} {e : Env} {s : State} {m : MethodId} {args : Array Value} {below : List Frame} {meth : Method} {c0 : Code} (hx : p.tables.exec = Jvm.exec) (hb : c0.code = cX6_digest) (hr : meth.sig.returnType = (some .long)) (hts : ∀ w ∈ wsX6_digest, w.before args s = true) (hown : s.vm.findClass RX6 = some m.cls) (hlocks : meth.locks = false) (hml : c0.maxLocals = 5) (hKK : mh_K D d cB s) {Q : State → Prop} (kK : ∀ (H : Heap) (locs : List Loc), mm_W D d cB L m0 0 ρ A H → va_S A s.heap H locs → ∀ ls : Array Slot, lv_has ls 5 [(1, .long (mp_gP ρ F q g 11)), (3, .int (nI q)), (0, .ref m0)] → W p l e (({ frames := 8, cells := 1425, slots := 11415, locals := 320 } : Room)) s m args below meth c0 H locs c9 s9 Q (F0 m 80 ls [])) : ∀ (kk n : Nat), n + kk = 11 → (∀ q, s.heap.size ≤ q → A q) → ∀ (H : Heap) (locs : List Loc), mm_W D d cB L m0 0 ρ A H → va_S A s.heap H locs → ∀ ls : Array Slot, lv_has ls 5 [(4, .int (nI n)), (1, .long (mp_gP ρ F q g n)), (3, .int (nI q)), (0, .ref m0)] → W p l e (({ frames := 8, cells := 1425, slots := 11415, locals := 320 } : Room)) s m args below meth c0 H locs c9 s9 Q (F0 m 52 ls []) := by
  intro kk
  induction kk with
  | zero =>
    intro n hn hAz H locs hM hS ls hl
    have hnN : n = 11 := by omega
    have hW := hM.2.1
    have h10 := hok.1
    have hF8 := hok.2.1
    have hR5 := hok.2.2.1
    refine lv_iload hx hb dX6_digest_52 (lv_at hl 0 rfl) ?_
    refine lv_bipush (v := 10) hx hb dX6_digest_54 (by decide) ?_
    refine lv_icmp_gt (tgt := 80) hx hb dX6_digest_56 (by decide) (fun c_56 => ?_) (fun c_56 => ?_)
    · subst hnN
      exact kK _ _ hM hS ls (lv_sub hl [1, 2, 3] rfl)
    · exact absurd (show (10 : Int32) < nI n by rw [hnN]; decide) c_56
  | succ kk ih =>
    intro n hn hAz H locs hM hS ls hl
    have hnN : n < 11 := by omega
    have hW := hM.2.1
    have h10 := hok.1
    have hF8 := hok.2.1
    have hR5 := hok.2.2.1
    refine lv_iload hx hb dX6_digest_52 (lv_at hl 0 rfl) ?_
    refine lv_bipush (v := 10) hx hb dX6_digest_54 (by decide) ?_
    refine lv_icmp_gt (tgt := 80) hx hb dX6_digest_56 (by decide) (fun c_56 => ?_) (fun c_56 => ?_)
    · exact absurd c_56 (by rw [show (10 : Int32) = nI 10 from by decide +kernel]; exact nI_nlt (show n ≤ 10 by omega) (by omega))
    · refine lv_lload_n hx hb dX6_digest_59 rfl (lv_at hl 1 rfl) ?_
      refine lv_ldc2 (v := 31) hx hb hown (hts (.constantLong RX6 181 31) (by decide +kernel)) dX6_digest_60 ?_
      refine lv_lmul hx hb dX6_digest_63 ?_
      refine lv_aload_n hx hb dX6_digest_64 rfl (lv_at hl 3 rfl) ?_
      refine lv_iload_n hx hb dX6_digest_65 rfl (lv_at hl 2 rfl) ?_
      refine lv_iload hx hb dX6_digest_66 (lv_at hl 0 rfl) ?_
      refine mm_calli (As := [.int (nI q), .int (nI n)]) ⟨hx, hb, hml, hown, hts⟩ (kX6_personNow l D d cB L m0 (0 : Int32) ρ A H.size P F R hok q (by omega) n (by omega)) (cwV 2 hts gX6_digest_X6_personNow rfl rfl rfl (by decide +kernel) ⟨Nat.le_of_ble_eq_true rfl, Nat.le_of_ble_eq_true rfl⟩) hKK hM hS rfl hl.1 (Nat.le_of_ble_eq_true rfl) dX6_digest_68 ⟨by show _ ≤ 1425; omega, by show _ ≤ 11415; omega⟩ rfl (fun r_ X_ H locs hp hM hz hS => ?_)
      obtain ⟨t_, τ_⟩ := X_
      obtain ⟨e1_, e2_, e3_⟩ := hp
      have e2_ : (0 : Int32) = t_ := e2_
      have e3_ : ρ = τ_ := e3_
      subst e1_ e2_ e3_
      have hM : mm_W D d cB L m0 0 ρ A H := hM
      have hW := hM.2.1
      refine lv_i2l hx hb dX6_digest_71 rfl ?_
      refine lv_ladd hx hb dX6_digest_72 ?_
      refine lv_lstore_n (lv' := [(1, .long (((mp_gP ρ F q g n) * 31) + ((mp_pnow ρ F q n).toInt64))), (4, .int (nI n)), (3, .int (nI q)), (0, .ref m0)]) hx hb dX6_digest_73 rfl hl (by decide) rfl (fun ls hl => ?_)
      refine lv_iinc (v := nI (n + 1)) (lv' := [(4, .int (nI (n + 1))), (1, .long (((mp_gP ρ F q g n) * 31) + ((mp_pnow ρ F q n).toInt64))), (3, .int (nI q)), (0, .ref m0)]) hx hb dX6_digest_74 hl (k := 1) rfl (nI_succ _).symm (by decide) rfl (fun ls hl => ?_)
      refine lv_goto (tgt := 52) hx hb dX6_digest_77 (by decide) ?_
      have hM : mm_W D d cB L m0 0 ρ A H := hM
      refine W.widen (k := c9) (n := s9) (by omega) (by omega) ?_
      exact ih (n + 1) (by omega) hAz _ _ hM hS ls (lv_sub hl [0, 1, 2, 3] rfl)
set_option maxHeartbeats 4000000 in
set_option maxRecDepth 100000 in
/-- the reference: X6_digest: the loop at 83 -/
theorem lkX6_digest83 (l : Launch) (D : va_G) (d : hs_Dm) (cB : ClassId) (L : hs_Lo) (m0 : Nat) (th : Int32) (ρ : hs_St) (A : Nat → Prop) (sz : Nat) (P F R : Nat) (hok : mh_ok P F R ρ) (q : Nat) (hq : q < P) (g : Int64) (c9 s9 : Nat) (hc9 : c9 ≤ 1425) (hs9 : s9 ≤ 11415) {p : Program} {e : Env} {s : State} {m : MethodId} {args : Array Value} {below : List Frame} {meth : Method} {c0 : Code} (hx : p.tables.exec = Jvm.exec) (hb : c0.code = cX6_digest) (hr : meth.sig.returnType = (some .long)) (hts : ∀ w ∈ wsX6_digest, w.before args s = true) (hown : s.vm.findClass RX6 = some m.cls) (hlocks : meth.locks = false) (hml : c0.maxLocals = 5) (hKK : mh_K D d cB s) {Q : State → Prop} (kK : ∀ (H : Heap) (locs : List Loc), mm_W D d cB L m0 0 ρ A H → va_S A s.heap H locs → ∀ ls : Array Slot, lv_has ls 5 [(1, .long (mp_gK ρ q g 6)), (3, .int (nI q)), (0, .ref m0)] → W p l e (({ frames := 8, cells := 1425, slots := 11415, locals := 320 } : Room)) s m args below meth c0 H locs c9 s9 Q (F0 m 134 ls [])) : ∀ (kk n : Nat), n + kk = 6 → (∀ q, s.heap.size ≤ q → A q) → ∀ (H : Heap) (locs : List Loc), mm_W D d cB L m0 0 ρ A H → va_S A s.heap H locs → ∀ ls : Array Slot, lv_has ls 5 [(4, .int (nI n)), (1, .long (mp_gK ρ q g n)), (3, .int (nI q)), (0, .ref m0)] → W p l e (({ frames := 8, cells := 1425, slots := 11415, locals := 320 } : Room)) s m args below meth c0 H locs c9 s9 Q (F0 m 83 ls []) := by
  intro kk
  induction kk with
  | zero =>
    intro n hn hAz H locs hM hS ls hl
    have hnN : n = 6 := by omega
    have hW := hM.2.1
    have h10 := hok.1
    have hF8 := hok.2.1
    have hR5 := hok.2.2.1
    refine lv_iload hx hb dX6_digest_83 (lv_at hl 0 rfl) ?_
    refine lv_bipush (v := 6) hx hb dX6_digest_85 (by decide) ?_
    refine lv_icmp_ge (tgt := 134) hx hb dX6_digest_87 (by decide) (fun c_87 => ?_) (fun c_87 => ?_)
    · subst hnN
      exact kK _ _ hM hS ls (lv_sub hl [1, 2, 3] rfl)
    · exact absurd (by rw [hnN]; exact nI_le (a := 6) (b := 6) (Nat.le_refl _) (by decide)) c_87
  | succ kk ih =>
    intro n hn hAz H locs hM hS ls hl
    have hnN : n < 6 := by omega
    have hW := hM.2.1
    have h10 := hok.1
    have hF8 := hok.2.1
    have hR5 := hok.2.2.1
    refine lv_iload hx hb dX6_digest_83 (lv_at hl 0 rfl) ?_
    refine lv_bipush (v := 6) hx hb dX6_digest_85 (by decide) ?_
    refine lv_icmp_ge (tgt := 134) hx hb dX6_digest_87 (by decide) (fun c_87 => ?_) (fun c_87 => ?_)
    · exact absurd c_87 (nI_ge (b := 6) hnN (by decide))
    · refine lv_lload_n hx hb dX6_digest_90 rfl (lv_at hl 1 rfl) ?_
      refine lv_ldc2 (v := 31) hx hb hown (hts (.constantLong RX6 181 31) (by decide +kernel)) dX6_digest_91 ?_
      refine lv_lmul hx hb dX6_digest_94 ?_
      refine lv_aload_n hx hb dX6_digest_95 rfl (lv_at hl 3 rfl) ?_
      refine mm_house hx hb hts (by decide +kernel) hown hKK.1 hM (hts (.fieldLink RX6 10 "WaxrowModel" "house" "LWaxrowModel$House;") (by decide +kernel)) dX6_digest_96 ?_
      have hW := hM.2.1
      refine mh_get hx hb hts (by decide +kernel) hown hKK.1 hW 1 (by decide) (hts (.fieldLink RX6 67 "WaxrowModel$House" "low" "[[I") (by decide +kernel)) rfl (v := .ref (L 2 0)) rfl dX6_digest_99 ?_
      refine lv_iload_n hx hb dX6_digest_102 rfl (lv_at hl 2 rfl) ?_
      refine mh_aald hx hb hKK.2.1 hW 2 q (by decide) (by decide) (by show q < mh_n 2; unfold mh_n; simp; omega) dX6_digest_103 ?_
      refine lv_iload hx hb dX6_digest_104 (lv_at hl 0 rfl) ?_
      refine mh_iald hx hb hKK.1 hW 12 q (by decide) (mh_ixR (k := 2) (by decide) (by decide) (by show q < mh_n 2; unfold mh_n; simp; omega)) (i := nI n) (by unfold vp_in; exact nI_in (show n < 6 by omega) (by decide)) dX6_digest_106 ?_
      rw [show (nI n : Int32).toNatClampNeg = n from nI_clamp (by omega)]
      refine lv_i2l hx hb dX6_digest_107 rfl ?_
      refine lv_ladd hx hb dX6_digest_108 ?_
      refine lv_ldc2 (v := 31) hx hb hown (hts (.constantLong RX6 181 31) (by decide +kernel)) dX6_digest_109 ?_
      refine lv_lmul hx hb dX6_digest_112 ?_
      refine lv_aload_n hx hb dX6_digest_113 rfl (lv_at hl 3 rfl) ?_
      refine mm_house hx hb hts (by decide +kernel) hown hKK.1 hM (hts (.fieldLink RX6 10 "WaxrowModel" "house" "LWaxrowModel$House;") (by decide +kernel)) dX6_digest_114 ?_
      have hW := hM.2.1
      refine mh_get hx hb hts (by decide +kernel) hown hKK.1 hW 2 (by decide) (hts (.fieldLink RX6 50 "WaxrowModel$House" "high" "[[I") (by decide +kernel)) rfl (v := .ref (L 3 0)) rfl dX6_digest_117 ?_
      refine lv_iload_n hx hb dX6_digest_120 rfl (lv_at hl 2 rfl) ?_
      refine mh_aald hx hb hKK.2.1 hW 3 q (by decide) (by decide) (by show q < mh_n 3; unfold mh_n; simp; omega) dX6_digest_121 ?_
      refine lv_iload hx hb dX6_digest_122 (lv_at hl 0 rfl) ?_
      refine mh_iald hx hb hKK.1 hW 13 q (by decide) (mh_ixR (k := 3) (by decide) (by decide) (by show q < mh_n 3; unfold mh_n; simp; omega)) (i := nI n) (by unfold vp_in; exact nI_in (show n < 6 by omega) (by decide)) dX6_digest_124 ?_
      rw [show (nI n : Int32).toNatClampNeg = n from nI_clamp (by omega)]
      refine lv_i2l hx hb dX6_digest_125 rfl ?_
      refine lv_ladd hx hb dX6_digest_126 ?_
      refine lv_lstore_n (lv' := [(1, .long (((((mp_gK ρ q g n) * 31) + ((ρ 12 q n).toInt64)) * 31) + ((ρ 13 q n).toInt64))), (4, .int (nI n)), (3, .int (nI q)), (0, .ref m0)]) hx hb dX6_digest_127 rfl hl (by decide) rfl (fun ls hl => ?_)
      refine lv_iinc (v := nI (n + 1)) (lv' := [(4, .int (nI (n + 1))), (1, .long (((((mp_gK ρ q g n) * 31) + ((ρ 12 q n).toInt64)) * 31) + ((ρ 13 q n).toInt64))), (3, .int (nI q)), (0, .ref m0)]) hx hb dX6_digest_128 hl (k := 1) rfl (nI_succ _).symm (by decide) rfl (fun ls hl => ?_)
      refine lv_goto (tgt := 83) hx hb dX6_digest_131 (by decide) ?_
      have hM : mm_W D d cB L m0 0 ρ A H := hM
      refine W.widen (k := c9) (n := s9) (by omega) (by omega) ?_
      exact ih (n + 1) (by omega) hAz _ _ hM hS ls (lv_sub hl [0, 1, 2, 3] rfl)
set_option maxHeartbeats 4000000 in
set_option maxRecDepth 100000 in
/-- the reference: X6_digest: the loop at 38 -/
theorem lkX6_digest38 (l : Launch) (D : va_G) (d : hs_Dm) (cB : ClassId) (L : hs_Lo) (m0 : Nat) (th : Int32) (ρ : hs_St) (A : Nat → Prop) (sz : Nat) (P F R : Nat) (hok : mh_ok P F R ρ) (g : Int64) {p : Program} {e : Env} {s : State} {m : MethodId} {args : Array Value} {below : List Frame} {meth : Method} {c0 : Code} (hx : p.tables.exec = Jvm.exec) (hb : c0.code = cX6_digest) (hr : meth.sig.returnType = (some .long)) (hts : ∀ w ∈ wsX6_digest, w.before args s = true) (hown : s.vm.findClass RX6 = some m.cls) (hlocks : meth.locks = false) (hml : c0.maxLocals = 5) (hKK : mh_K D d cB s) {Q : State → Prop} (kK : ∀ (H : Heap) (locs : List Loc), mm_W D d cB L m0 0 ρ A H → va_S A s.heap H locs → ∀ ls : Array Slot, lv_has ls 5 [(1, .long (mp_gPs ρ F g P)), (0, .ref m0)] → W p l e (({ frames := 8, cells := 1425, slots := 11415, locals := 320 } : Room)) s m args below meth c0 H locs (15 + P) (225 + 9 * P) Q (F0 m 156 ls [])) : ∀ (kk n : Nat), n + kk = P → (∀ q, s.heap.size ≤ q → A q) → ∀ (H : Heap) (locs : List Loc), mm_W D d cB L m0 0 ρ A H → va_S A s.heap H locs → ∀ ls : Array Slot, lv_has ls 5 [(3, .int (nI n)), (1, .long (mp_gPs ρ F g n)), (0, .ref m0)] → W p l e (({ frames := 8, cells := 1425, slots := 11415, locals := 320 } : Room)) s m args below meth c0 H locs (15 + n) (225 + 9 * n) Q (F0 m 38 ls []) := by
  intro kk
  induction kk with
  | zero =>
    intro n hn hAz H locs hM hS ls hl
    have hnN : n = P := by omega
    have hW := hM.2.1
    have h10 := hok.1
    have hF8 := hok.2.1
    have hR5 := hok.2.2.1
    refine lv_iload_n hx hb dX6_digest_38 rfl (lv_at hl 0 rfl) ?_
    refine lv_aload_n hx hb dX6_digest_39 rfl (lv_at hl 2 rfl) ?_
    refine mm_house hx hb hts (by decide +kernel) hown hKK.1 hM (hts (.fieldLink RX6 10 "WaxrowModel" "house" "LWaxrowModel$House;") (by decide +kernel)) dX6_digest_40 ?_
    have hW := hM.2.1
    refine mh_get hx hb hts (by decide +kernel) hown hKK.1 hW 6 (by decide) (hts (.fieldLink RX6 29 "WaxrowModel$House" "personCount" "I") (by decide +kernel)) rfl (v := .int (ρ 0 0 6)) rfl dX6_digest_43 ?_
    rw [show ρ 0 0 6 = nI P from hok.2.2.2.1]
    refine lv_icmp_ge (tgt := 156) hx hb dX6_digest_46 (by decide) (fun c_46 => ?_) (fun c_46 => ?_)
    · subst hnN
      exact kK _ _ hM hS ls (lv_sub hl [1, 2] rfl)
    · exact absurd (by rw [hnN]; exact nI_le (a := P) (b := P) (Nat.le_refl _) (by omega)) c_46
  | succ kk ih =>
    intro n hn hAz H locs hM hS ls hl
    have hnN : n < P := by omega
    have hW := hM.2.1
    have h10 := hok.1
    have hF8 := hok.2.1
    have hR5 := hok.2.2.1
    refine lv_iload_n hx hb dX6_digest_38 rfl (lv_at hl 0 rfl) ?_
    refine lv_aload_n hx hb dX6_digest_39 rfl (lv_at hl 2 rfl) ?_
    refine mm_house hx hb hts (by decide +kernel) hown hKK.1 hM (hts (.fieldLink RX6 10 "WaxrowModel" "house" "LWaxrowModel$House;") (by decide +kernel)) dX6_digest_40 ?_
    have hW := hM.2.1
    refine mh_get hx hb hts (by decide +kernel) hown hKK.1 hW 6 (by decide) (hts (.fieldLink RX6 29 "WaxrowModel$House" "personCount" "I") (by decide +kernel)) rfl (v := .int (ρ 0 0 6)) rfl dX6_digest_43 ?_
    rw [show ρ 0 0 6 = nI P from hok.2.2.2.1]
    refine lv_icmp_ge (tgt := 156) hx hb dX6_digest_46 (by decide) (fun c_46 => ?_) (fun c_46 => ?_)
    · exact absurd c_46 (nI_ge (b := P) hnN (by omega))
    · refine lv_iconst (v := 0) hx hb dX6_digest_49 (by decide) ?_
      refine lv_istore (lv' := [(4, .int 0), (3, .int (nI n)), (1, .long (mp_gPs ρ F g n)), (0, .ref m0)]) hx hb dX6_digest_50 hl (by decide) rfl (fun ls hl => ?_)
      refine lkX6_digest52 l D d cB L m0 0 ρ A sz P F R hok n hnN (mp_gPs ρ F g n) (15 + n) (225 + 9 * n) (by omega) (by omega) hx hb hr hts hown hlocks hml hKK (fun H locs hM hS ls hl => ?_) 11 0 (by omega) hAz _ _ hM hS ls (lv_sub hl [0, 2, 1, 3] rfl)
      have hW := hM.2.1
      refine lv_iconst (v := 0) hx hb dX6_digest_80 (by decide) ?_
      refine lv_istore (lv' := [(4, .int 0), (1, .long (mp_gP ρ F n (mp_gPs ρ F g n) 11)), (3, .int (nI n)), (0, .ref m0)]) hx hb dX6_digest_81 hl (by decide) rfl (fun ls hl => ?_)
      refine lkX6_digest83 l D d cB L m0 0 ρ A sz P F R hok n hnN (mp_gP ρ F n (mp_gPs ρ F g n) 11) (15 + n) (225 + 9 * n) (by omega) (by omega) hx hb hr hts hown hlocks hml hKK (fun H locs hM hS ls hl => ?_) 6 0 (by omega) hAz _ _ hM hS ls (lv_sub hl [0, 1, 2, 3] rfl)
      have hW := hM.2.1
      refine lv_lload_n hx hb dX6_digest_134 rfl (lv_at hl 0 rfl) ?_
      refine lv_ldc2 (v := 31) hx hb hown (hts (.constantLong RX6 181 31) (by decide +kernel)) dX6_digest_135 ?_
      refine lv_lmul hx hb dX6_digest_138 ?_
      refine lv_aload_n hx hb dX6_digest_139 rfl (lv_at hl 2 rfl) ?_
      refine lv_iload_n hx hb dX6_digest_140 rfl (lv_at hl 1 rfl) ?_
      refine lv_iconst (v := 0) hx hb dX6_digest_141 (by decide) ?_
      refine lv_bipush (v := 9) hx hb dX6_digest_142 (by decide) ?_
      refine mm_calli (As := [.int (nI n), .int 0, .int 9]) ⟨hx, hb, hml, hown, hts⟩ (kX6_fameNow l D d cB L m0 (0 : Int32) ρ A H.size n (by omega) 0 (by decide) 9 (by decide) (fun q h => hAz q (Nat.le_trans hS.1 h))) (cwV 3 hts gX6_digest_X6_fameNow rfl rfl rfl (by decide +kernel) ⟨Nat.le_of_ble_eq_true rfl, Nat.le_of_ble_eq_true rfl⟩) hKK hM hS rfl hl.1 (Nat.le_of_ble_eq_true rfl) dX6_digest_144 ⟨by show _ ≤ 1425; omega, by show _ ≤ 11415; omega⟩ rfl (fun r_ X_ H locs hp hM hz hS => ?_)
      obtain ⟨t_, τ_⟩ := X_
      obtain ⟨e1_, e2_, e3_⟩ := hp
      have e2_ : (0 : Int32) = t_ := e2_
      have e3_ : ρ = τ_ := e3_
      subst e1_ e2_ e3_
      have hM : mm_W D d cB L m0 0 ρ A H := hM
      have hW := hM.2.1
      refine lv_i2l hx hb dX6_digest_147 rfl ?_
      refine lv_ladd hx hb dX6_digest_148 ?_
      refine lv_lstore_n (lv' := [(1, .long (((mp_gK ρ n (mp_gP ρ F n (mp_gPs ρ F g n) 11) 6) * 31) + ((mp_fame ρ n 0 9).toInt64))), (3, .int (nI n)), (0, .ref m0)]) hx hb dX6_digest_149 rfl hl (by decide) rfl (fun ls hl => ?_)
      refine lv_iinc (v := nI (n + 1)) (lv' := [(3, .int (nI (n + 1))), (1, .long (((mp_gK ρ n (mp_gP ρ F n (mp_gPs ρ F g n) 11) 6) * 31) + ((mp_fame ρ n 0 9).toInt64))), (0, .ref m0)]) hx hb dX6_digest_150 hl (k := 1) rfl (nI_succ _).symm (by decide) rfl (fun ls hl => ?_)
      refine lv_goto (tgt := 38) hx hb dX6_digest_153 (by decide) ?_
      have hM : mm_W D d cB L m0 0 ρ A H := hM
      refine W.widen (k := (15 + (n + 1))) (n := (225 + 9 * (n + 1))) (by omega) (by omega) ?_
      exact ih (n + 1) (by omega) hAz _ _ hM hS ls (lv_sub hl [0, 1, 2] rfl)
set_option maxHeartbeats 4000000 in
set_option maxRecDepth 100000 in
/-- the reference: X6_digest: the loop at 172 -/
theorem lkX6_digest172 (l : Launch) (D : va_G) (d : hs_Dm) (cB : ClassId) (L : hs_Lo) (m0 : Nat) (th : Int32) (ρ : hs_St) (A : Nat → Prop) (sz : Nat) (P F R : Nat) (hok : mh_ok P F R ρ) (f : Nat) (hf : f < F) (g : Int64) {p : Program} {e : Env} {s : State} {m : MethodId} {args : Array Value} {below : List Frame} {meth : Method} {c0 : Code} (hx : p.tables.exec = Jvm.exec) (hb : c0.code = cX6_digest) (hr : meth.sig.returnType = (some .long)) (hts : ∀ w ∈ wsX6_digest, w.before args s = true) (hown : s.vm.findClass RX6 = some m.cls) (hlocks : meth.locks = false) (hml : c0.maxLocals = 5) (hKK : mh_K D d cB s) {Q : State → Prop} (kK : ∀ (H : Heap) (locs : List Loc), mm_W D d cB L m0 0 ρ A H → va_S A s.heap H locs → ∀ ls : Array Slot, lv_has ls 5 [(1, .long (mp_gF ρ f g 12)), (3, .int (nI f)), (0, .ref m0)] → W p l e (({ frames := 8, cells := 1425, slots := 11415, locals := 320 } : Room)) s m args below meth c0 H locs (25 + 170 * f + 12) (315 + 1355 * f + 12 * 12) Q (F0 m 208 ls [])) : ∀ (kk n : Nat), n + kk = 12 → (∀ q, s.heap.size ≤ q → A q) → ∀ (H : Heap) (locs : List Loc), mm_W D d cB L m0 0 ρ A H → va_S A s.heap H locs → ∀ ls : Array Slot, lv_has ls 5 [(4, .int (nI n)), (1, .long (mp_gF ρ f g n)), (3, .int (nI f)), (0, .ref m0)] → W p l e (({ frames := 8, cells := 1425, slots := 11415, locals := 320 } : Room)) s m args below meth c0 H locs (25 + 170 * f + n) (315 + 1355 * f + 12 * n) Q (F0 m 172 ls []) := by
  intro kk
  induction kk with
  | zero =>
    intro n hn hAz H locs hM hS ls hl
    have hnN : n = 12 := by omega
    have hW := hM.2.1
    have h10 := hok.1
    have hF8 := hok.2.1
    have hR5 := hok.2.2.1
    refine lv_iload hx hb dX6_digest_172 (lv_at hl 0 rfl) ?_
    refine lv_bipush (v := 11) hx hb dX6_digest_174 (by decide) ?_
    refine lv_icmp_gt (tgt := 208) hx hb dX6_digest_176 (by decide) (fun c_176 => ?_) (fun c_176 => ?_)
    · subst hnN
      exact kK _ _ hM hS ls (lv_sub hl [1, 2, 3] rfl)
    · exact absurd (show (11 : Int32) < nI n by rw [hnN]; decide) c_176
  | succ kk ih =>
    intro n hn hAz H locs hM hS ls hl
    have hnN : n < 12 := by omega
    have hW := hM.2.1
    have h10 := hok.1
    have hF8 := hok.2.1
    have hR5 := hok.2.2.1
    refine lv_iload hx hb dX6_digest_172 (lv_at hl 0 rfl) ?_
    refine lv_bipush (v := 11) hx hb dX6_digest_174 (by decide) ?_
    refine lv_icmp_gt (tgt := 208) hx hb dX6_digest_176 (by decide) (fun c_176 => ?_) (fun c_176 => ?_)
    · exact absurd c_176 (by rw [show (11 : Int32) = nI 11 from by decide +kernel]; exact nI_nlt (show n ≤ 11 by omega) (by omega))
    · refine lv_lload_n hx hb dX6_digest_179 rfl (lv_at hl 1 rfl) ?_
      refine lv_ldc2 (v := 31) hx hb hown (hts (.constantLong RX6 181 31) (by decide +kernel)) dX6_digest_180 ?_
      refine lv_lmul hx hb dX6_digest_183 ?_
      refine lv_aload_n hx hb dX6_digest_184 rfl (lv_at hl 3 rfl) ?_
      refine lv_aload_n hx hb dX6_digest_185 rfl (lv_at hl 3 rfl) ?_
      refine mm_house hx hb hts (by decide +kernel) hown hKK.1 hM (hts (.fieldLink RX6 10 "WaxrowModel" "house" "LWaxrowModel$House;") (by decide +kernel)) dX6_digest_186 ?_
      have hW := hM.2.1
      refine mh_get hx hb hts (by decide +kernel) hown hKK.1 hW 3 (by decide) (hts (.fieldLink RX6 60 "WaxrowModel$House" "figures" "[[I") (by decide +kernel)) rfl (v := .ref (L 4 0)) rfl dX6_digest_189 ?_
      refine lv_iload_n hx hb dX6_digest_192 rfl (lv_at hl 2 rfl) ?_
      refine mh_aald hx hb hKK.2.1 hW 4 f (by decide) (by decide) (by show f < mh_n 4; unfold mh_n; simp; omega) dX6_digest_193 ?_
      refine lv_iload hx hb dX6_digest_194 (lv_at hl 0 rfl) ?_
      refine mm_calli (As := [.ref (L 14 f), .int (nI n)]) ⟨hx, hb, hml, hown, hts⟩ (kX6_figureNow l D d cB L m0 (0 : Int32) ρ A H.size f (by omega) (by obtain ⟨h_, h1_, h2_⟩ := (hok.2.2.2.2.2.2 f (by omega)).1; exact ⟨h_, by omega, h2_⟩) (by obtain ⟨h_, h1_, h2_⟩ := (hok.2.2.2.2.2.2 f (by omega)).2.1; exact ⟨h_, by omega, h2_⟩) n (by omega) (fun q h => hAz q (Nat.le_trans hS.1 h))) (cwV 2 hts gX6_digest_X6_figureNow rfl rfl rfl (by decide +kernel) ⟨Nat.le_of_ble_eq_true rfl, Nat.le_of_ble_eq_true rfl⟩) hKK hM hS rfl hl.1 (Nat.le_of_ble_eq_true rfl) dX6_digest_196 ⟨by show _ ≤ 1425; omega, by show _ ≤ 11415; omega⟩ rfl (fun r_ X_ H locs hp hM hz hS => ?_)
      obtain ⟨t_, τ_⟩ := X_
      obtain ⟨e1_, e2_, e3_⟩ := hp
      have e2_ : (0 : Int32) = t_ := e2_
      have e3_ : ρ = τ_ := e3_
      subst e1_ e2_ e3_
      have hM : mm_W D d cB L m0 0 ρ A H := hM
      have hW := hM.2.1
      refine lv_i2l hx hb dX6_digest_199 rfl ?_
      refine lv_ladd hx hb dX6_digest_200 ?_
      refine lv_lstore_n (lv' := [(1, .long (((mp_gF ρ f g n) * 31) + ((mp_fnow ρ f n).toInt64))), (4, .int (nI n)), (3, .int (nI f)), (0, .ref m0)]) hx hb dX6_digest_201 rfl hl (by decide) rfl (fun ls hl => ?_)
      refine lv_iinc (v := nI (n + 1)) (lv' := [(4, .int (nI (n + 1))), (1, .long (((mp_gF ρ f g n) * 31) + ((mp_fnow ρ f n).toInt64))), (3, .int (nI f)), (0, .ref m0)]) hx hb dX6_digest_202 hl (k := 1) rfl (nI_succ _).symm (by decide) rfl (fun ls hl => ?_)
      refine lv_goto (tgt := 172) hx hb dX6_digest_205 (by decide) ?_
      have hM : mm_W D d cB L m0 0 ρ A H := hM
      refine W.widen (k := (25 + 170 * f + (n + 1))) (n := (315 + 1355 * f + 12 * (n + 1))) (by omega) (by omega) ?_
      exact ih (n + 1) (by omega) hAz _ _ hM hS ls (lv_sub hl [0, 1, 2, 3] rfl)
set_option maxHeartbeats 4000000 in
set_option maxRecDepth 100000 in
/-- the reference: X6_digest: the loop at 158 -/
theorem lkX6_digest158 (l : Launch) (D : va_G) (d : hs_Dm) (cB : ClassId) (L : hs_Lo) (m0 : Nat) (th : Int32) (ρ : hs_St) (A : Nat → Prop) (sz : Nat) (P F R : Nat) (hok : mh_ok P F R ρ) (g : Int64) {p : Program} {e : Env} {s : State} {m : MethodId} {args : Array Value} {below : List Frame} {meth : Method} {c0 : Code} (hx : p.tables.exec = Jvm.exec) (hb : c0.code = cX6_digest) (hr : meth.sig.returnType = (some .long)) (hts : ∀ w ∈ wsX6_digest, w.before args s = true) (hown : s.vm.findClass RX6 = some m.cls) (hlocks : meth.locks = false) (hml : c0.maxLocals = 5) (hKK : mh_K D d cB s) {Q : State → Prop} (kK : ∀ (H : Heap) (locs : List Loc), mm_W D d cB L m0 0 ρ A H → va_S A s.heap H locs → ∀ ls : Array Slot, lv_has ls 5 [(1, .long (mp_gFs ρ P F g F)), (0, .ref m0)] → W p l e (({ frames := 8, cells := 1425, slots := 11415, locals := 320 } : Room)) s m args below meth c0 H locs (25 + 170 * F) (315 + 1355 * F) Q (F0 m 251 ls [])) : ∀ (kk n : Nat), n + kk = F → (∀ q, s.heap.size ≤ q → A q) → ∀ (H : Heap) (locs : List Loc), mm_W D d cB L m0 0 ρ A H → va_S A s.heap H locs → ∀ ls : Array Slot, lv_has ls 5 [(3, .int (nI n)), (1, .long (mp_gFs ρ P F g n)), (0, .ref m0)] → W p l e (({ frames := 8, cells := 1425, slots := 11415, locals := 320 } : Room)) s m args below meth c0 H locs (25 + 170 * n) (315 + 1355 * n) Q (F0 m 158 ls []) := by
  intro kk
  induction kk with
  | zero =>
    intro n hn hAz H locs hM hS ls hl
    have hnN : n = F := by omega
    have hW := hM.2.1
    have h10 := hok.1
    have hF8 := hok.2.1
    have hR5 := hok.2.2.1
    refine lv_iload_n hx hb dX6_digest_158 rfl (lv_at hl 0 rfl) ?_
    refine lv_aload_n hx hb dX6_digest_159 rfl (lv_at hl 2 rfl) ?_
    refine mm_house hx hb hts (by decide +kernel) hown hKK.1 hM (hts (.fieldLink RX6 10 "WaxrowModel" "house" "LWaxrowModel$House;") (by decide +kernel)) dX6_digest_160 ?_
    have hW := hM.2.1
    refine mh_get hx hb hts (by decide +kernel) hown hKK.1 hW 7 (by decide) (hts (.fieldLink RX6 36 "WaxrowModel$House" "figureCount" "I") (by decide +kernel)) rfl (v := .int (ρ 0 0 7)) rfl dX6_digest_163 ?_
    rw [show ρ 0 0 7 = nI F from hok.2.2.2.2.1]
    refine lv_icmp_ge (tgt := 251) hx hb dX6_digest_166 (by decide) (fun c_166 => ?_) (fun c_166 => ?_)
    · subst hnN
      exact kK _ _ hM hS ls (lv_sub hl [1, 2] rfl)
    · exact absurd (by rw [hnN]; exact nI_le (a := F) (b := F) (Nat.le_refl _) (by omega)) c_166
  | succ kk ih =>
    intro n hn hAz H locs hM hS ls hl
    have hnN : n < F := by omega
    have hW := hM.2.1
    have h10 := hok.1
    have hF8 := hok.2.1
    have hR5 := hok.2.2.1
    refine lv_iload_n hx hb dX6_digest_158 rfl (lv_at hl 0 rfl) ?_
    refine lv_aload_n hx hb dX6_digest_159 rfl (lv_at hl 2 rfl) ?_
    refine mm_house hx hb hts (by decide +kernel) hown hKK.1 hM (hts (.fieldLink RX6 10 "WaxrowModel" "house" "LWaxrowModel$House;") (by decide +kernel)) dX6_digest_160 ?_
    have hW := hM.2.1
    refine mh_get hx hb hts (by decide +kernel) hown hKK.1 hW 7 (by decide) (hts (.fieldLink RX6 36 "WaxrowModel$House" "figureCount" "I") (by decide +kernel)) rfl (v := .int (ρ 0 0 7)) rfl dX6_digest_163 ?_
    rw [show ρ 0 0 7 = nI F from hok.2.2.2.2.1]
    refine lv_icmp_ge (tgt := 251) hx hb dX6_digest_166 (by decide) (fun c_166 => ?_) (fun c_166 => ?_)
    · exact absurd c_166 (nI_ge (b := F) hnN (by omega))
    · refine lv_iconst (v := 0) hx hb dX6_digest_169 (by decide) ?_
      refine lv_istore (lv' := [(4, .int 0), (3, .int (nI n)), (1, .long (mp_gFs ρ P F g n)), (0, .ref m0)]) hx hb dX6_digest_170 hl (by decide) rfl (fun ls hl => ?_)
      refine lkX6_digest172 l D d cB L m0 0 ρ A sz P F R hok n hnN (mp_gFs ρ P F g n) hx hb hr hts hown hlocks hml hKK (fun H locs hM hS ls hl => ?_) 12 0 (by omega) hAz _ _ hM hS ls (lv_sub hl [0, 2, 1, 3] rfl)
      have hW := hM.2.1
      refine lv_lload_n hx hb dX6_digest_208 rfl (lv_at hl 0 rfl) ?_
      refine lv_ldc2 (v := 31) hx hb hown (hts (.constantLong RX6 181 31) (by decide +kernel)) dX6_digest_209 ?_
      refine lv_lmul hx hb dX6_digest_212 ?_
      refine lv_aload_n hx hb dX6_digest_213 rfl (lv_at hl 2 rfl) ?_
      refine lv_aload_n hx hb dX6_digest_214 rfl (lv_at hl 2 rfl) ?_
      refine mm_house hx hb hts (by decide +kernel) hown hKK.1 hM (hts (.fieldLink RX6 10 "WaxrowModel" "house" "LWaxrowModel$House;") (by decide +kernel)) dX6_digest_215 ?_
      have hW := hM.2.1
      refine mh_get hx hb hts (by decide +kernel) hown hKK.1 hW 3 (by decide) (hts (.fieldLink RX6 60 "WaxrowModel$House" "figures" "[[I") (by decide +kernel)) rfl (v := .ref (L 4 0)) rfl dX6_digest_218 ?_
      refine lv_iload_n hx hb dX6_digest_221 rfl (lv_at hl 1 rfl) ?_
      refine mh_aald hx hb hKK.2.1 hW 4 n (by decide) (by decide) (by show n < mh_n 4; unfold mh_n; simp; omega) dX6_digest_222 ?_
      refine mm_calli (As := [.ref (L 14 n)]) ⟨hx, hb, hml, hown, hts⟩ (kX6_readyNow l D d cB L m0 (0 : Int32) ρ A H.size n (by omega) (hok.2.2.2.2.2.2 n (by omega)).2.2.1 (fun q h => hAz q (Nat.le_trans hS.1 h))) (cwV 1 hts gX6_digest_X6_readyNow rfl rfl rfl (by decide +kernel) ⟨Nat.le_of_ble_eq_true rfl, Nat.le_of_ble_eq_true rfl⟩) hKK hM hS rfl hl.1 (Nat.le_of_ble_eq_true rfl) dX6_digest_223 ⟨by show _ ≤ 1425; omega, by show _ ≤ 11415; omega⟩ rfl (fun r_ X_ H locs hp hM hz hS => ?_)
      obtain ⟨t_, τ_⟩ := X_
      obtain ⟨e1_, e2_, e3_⟩ := hp
      have e2_ : (0 : Int32) = t_ := e2_
      have e3_ : ρ = τ_ := e3_
      subst e1_ e2_ e3_
      have hM : mm_W D d cB L m0 0 ρ A H := hM
      have hW := hM.2.1
      refine lv_i2l hx hb dX6_digest_226 rfl ?_
      refine lv_ladd hx hb dX6_digest_227 ?_
      refine lv_ldc2 (v := 31) hx hb hown (hts (.constantLong RX6 181 31) (by decide +kernel)) dX6_digest_228 ?_
      refine lv_lmul hx hb dX6_digest_231 ?_
      refine lv_aload_n hx hb dX6_digest_232 rfl (lv_at hl 2 rfl) ?_
      refine lv_iload_n hx hb dX6_digest_233 rfl (lv_at hl 1 rfl) ?_
      refine lv_sipush (v := 900) hx hb dX6_digest_234 (by decide) ?_
      refine lv_bipush (v := 30) hx hb dX6_digest_237 (by decide) ?_
      refine mm_calli (As := [.int (nI n), .int 900, .int 30]) ⟨hx, hb, hml, hown, hts⟩ (kX6_meltsNow l D d cB L m0 (0 : Int32) ρ A H.size P F R hok n (by omega) 900 30 (fun q h => hAz q (Nat.le_trans hS.1 h))) (cwV 3 hts gX6_digest_X6_meltsNow rfl rfl rfl (by decide +kernel) ⟨Nat.le_of_ble_eq_true rfl, Nat.le_of_ble_eq_true rfl⟩) hKK hM hS rfl hl.1 (Nat.le_of_ble_eq_true rfl) dX6_digest_239 ⟨by show _ ≤ 1425; omega, by show _ ≤ 11415; omega⟩ rfl (fun r_ X_ H locs hp hM hz hS => ?_)
      obtain ⟨t_, τ_⟩ := X_
      obtain ⟨e1_, e2_, e3_⟩ := hp
      have e2_ : (0 : Int32) = t_ := e2_
      have e3_ : ρ = τ_ := e3_
      subst e1_ e2_ e3_
      have hM : mm_W D d cB L m0 0 ρ A H := hM
      have hW := hM.2.1
      refine lv_i2l hx hb dX6_digest_242 rfl ?_
      refine lv_ladd hx hb dX6_digest_243 ?_
      refine lv_lstore_n (lv' := [(1, .long (((((mp_gF ρ n (mp_gFs ρ P F g n) 12) * 31) + ((mp_ready ρ n).toInt64)) * 31) + ((mp_melts ρ P F n 900 30).toInt64))), (3, .int (nI n)), (0, .ref m0)]) hx hb dX6_digest_244 rfl hl (by decide) rfl (fun ls hl => ?_)
      refine lv_iinc (v := nI (n + 1)) (lv' := [(3, .int (nI (n + 1))), (1, .long (((((mp_gF ρ n (mp_gFs ρ P F g n) 12) * 31) + ((mp_ready ρ n).toInt64)) * 31) + ((mp_melts ρ P F n 900 30).toInt64))), (0, .ref m0)]) hx hb dX6_digest_245 hl (k := 1) rfl (nI_succ _).symm (by decide) rfl (fun ls hl => ?_)
      refine lv_goto (tgt := 158) hx hb dX6_digest_248 (by decide) ?_
      have hM : mm_W D d cB L m0 0 ρ A H := hM
      refine W.widen (k := (25 + 170 * (n + 1))) (n := (315 + 1355 * (n + 1))) (by omega) (by omega) ?_
      exact ih (n + 1) (by omega) hAz _ _ hM hS ls (lv_sub hl [0, 1, 2] rfl)
set_option maxHeartbeats 4000000 in
set_option maxRecDepth 100000 in
/-- the reference: X6_digest: the loop at 267 -/
theorem lkX6_digest267 (l : Launch) (D : va_G) (d : hs_Dm) (cB : ClassId) (L : hs_Lo) (m0 : Nat) (th : Int32) (ρ : hs_St) (A : Nat → Prop) (sz : Nat) (P F R : Nat) (hok : mh_ok P F R ρ) (b : Nat) (hb9 : b < R) (g : Int64) {p : Program} {e : Env} {s : State} {m : MethodId} {args : Array Value} {below : List Frame} {meth : Method} {c0 : Code} (hx : p.tables.exec = Jvm.exec) (hb : c0.code = cX6_digest) (hr : meth.sig.returnType = (some .long)) (hts : ∀ w ∈ wsX6_digest, w.before args s = true) (hown : s.vm.findClass RX6 = some m.cls) (hlocks : meth.locks = false) (hml : c0.maxLocals = 5) (hKK : mh_K D d cB s) {Q : State → Prop} (kK : ∀ (H : Heap) (locs : List Loc), mm_W D d cB L m0 0 ρ A H → va_S A s.heap H locs → ∀ ls : Array Slot, lv_has ls 5 [(1, .long (mp_gR ρ F b g 4)), (3, .int (nI b)), (0, .ref m0)] → W p l e (({ frames := 8, cells := 1425, slots := 11415, locals := 320 } : Room)) s m args below meth c0 H locs (1385 + 4 * b + 4) (11155 + 16 * b + 4 * 4) Q (F0 m 294 ls [])) : ∀ (kk n : Nat), n + kk = 4 → (∀ q, s.heap.size ≤ q → A q) → ∀ (H : Heap) (locs : List Loc), mm_W D d cB L m0 0 ρ A H → va_S A s.heap H locs → ∀ ls : Array Slot, lv_has ls 5 [(4, .int (nI n)), (1, .long (mp_gR ρ F b g n)), (3, .int (nI b)), (0, .ref m0)] → W p l e (({ frames := 8, cells := 1425, slots := 11415, locals := 320 } : Room)) s m args below meth c0 H locs (1385 + 4 * b + n) (11155 + 16 * b + 4 * n) Q (F0 m 267 ls []) := by
  intro kk
  induction kk with
  | zero =>
    intro n hn hAz H locs hM hS ls hl
    have hnN : n = 4 := by omega
    have hW := hM.2.1
    have h10 := hok.1
    have hF8 := hok.2.1
    have hR5 := hok.2.2.1
    refine lv_iload hx hb dX6_digest_267 (lv_at hl 0 rfl) ?_
    refine lv_iconst (v := 3) hx hb dX6_digest_269 (by decide) ?_
    refine lv_icmp_gt (tgt := 294) hx hb dX6_digest_270 (by decide) (fun c_270 => ?_) (fun c_270 => ?_)
    · subst hnN
      exact kK _ _ hM hS ls (lv_sub hl [1, 2, 3] rfl)
    · exact absurd (show (3 : Int32) < nI n by rw [hnN]; decide) c_270
  | succ kk ih =>
    intro n hn hAz H locs hM hS ls hl
    have hnN : n < 4 := by omega
    have hW := hM.2.1
    have h10 := hok.1
    have hF8 := hok.2.1
    have hR5 := hok.2.2.1
    refine lv_iload hx hb dX6_digest_267 (lv_at hl 0 rfl) ?_
    refine lv_iconst (v := 3) hx hb dX6_digest_269 (by decide) ?_
    refine lv_icmp_gt (tgt := 294) hx hb dX6_digest_270 (by decide) (fun c_270 => ?_) (fun c_270 => ?_)
    · exact absurd c_270 (by rw [show (3 : Int32) = nI 3 from by decide +kernel]; exact nI_nlt (show n ≤ 3 by omega) (by omega))
    · refine lv_lload_n hx hb dX6_digest_273 rfl (lv_at hl 1 rfl) ?_
      refine lv_ldc2 (v := 31) hx hb hown (hts (.constantLong RX6 181 31) (by decide +kernel)) dX6_digest_274 ?_
      refine lv_lmul hx hb dX6_digest_277 ?_
      refine lv_aload_n hx hb dX6_digest_278 rfl (lv_at hl 3 rfl) ?_
      refine lv_iload_n hx hb dX6_digest_279 rfl (lv_at hl 2 rfl) ?_
      refine lv_iload hx hb dX6_digest_280 (lv_at hl 0 rfl) ?_
      refine mm_calli (As := [.int (nI b), .int (nI n)]) ⟨hx, hb, hml, hown, hts⟩ (kX6_roomNow l D d cB L m0 (0 : Int32) ρ A H.size P F R hok b (by omega) n (by omega) (fun q h => hAz q (Nat.le_trans hS.1 h))) (cwV 2 hts gX6_digest_X6_roomNow rfl rfl rfl (by decide +kernel) ⟨Nat.le_of_ble_eq_true rfl, Nat.le_of_ble_eq_true rfl⟩) hKK hM hS rfl hl.1 (Nat.le_of_ble_eq_true rfl) dX6_digest_282 ⟨by show _ ≤ 1425; omega, by show _ ≤ 11415; omega⟩ rfl (fun r_ X_ H locs hp hM hz hS => ?_)
      obtain ⟨t_, τ_⟩ := X_
      obtain ⟨e1_, e2_, e3_⟩ := hp
      have e2_ : (0 : Int32) = t_ := e2_
      have e3_ : ρ = τ_ := e3_
      subst e1_ e2_ e3_
      have hM : mm_W D d cB L m0 0 ρ A H := hM
      have hW := hM.2.1
      refine lv_i2l hx hb dX6_digest_285 rfl ?_
      refine lv_ladd hx hb dX6_digest_286 ?_
      refine lv_lstore_n (lv' := [(1, .long (((mp_gR ρ F b g n) * 31) + ((mp_rnow ρ F b n).toInt64))), (4, .int (nI n)), (3, .int (nI b)), (0, .ref m0)]) hx hb dX6_digest_287 rfl hl (by decide) rfl (fun ls hl => ?_)
      refine lv_iinc (v := nI (n + 1)) (lv' := [(4, .int (nI (n + 1))), (1, .long (((mp_gR ρ F b g n) * 31) + ((mp_rnow ρ F b n).toInt64))), (3, .int (nI b)), (0, .ref m0)]) hx hb dX6_digest_288 hl (k := 1) rfl (nI_succ _).symm (by decide) rfl (fun ls hl => ?_)
      refine lv_goto (tgt := 267) hx hb dX6_digest_291 (by decide) ?_
      have hM : mm_W D d cB L m0 0 ρ A H := hM
      refine W.widen (k := (1385 + 4 * b + (n + 1))) (n := (11155 + 16 * b + 4 * (n + 1))) (by omega) (by omega) ?_
      exact ih (n + 1) (by omega) hAz _ _ hM hS ls (lv_sub hl [0, 1, 2, 3] rfl)
set_option maxHeartbeats 4000000 in
set_option maxRecDepth 100000 in
/-- the reference: X6_digest: the loop at 253 -/
theorem lkX6_digest253 (l : Launch) (D : va_G) (d : hs_Dm) (cB : ClassId) (L : hs_Lo) (m0 : Nat) (th : Int32) (ρ : hs_St) (A : Nat → Prop) (sz : Nat) (P F R : Nat) (hok : mh_ok P F R ρ) (g : Int64) {p : Program} {e : Env} {s : State} {m : MethodId} {args : Array Value} {below : List Frame} {meth : Method} {c0 : Code} (hx : p.tables.exec = Jvm.exec) (hb : c0.code = cX6_digest) (hr : meth.sig.returnType = (some .long)) (hts : ∀ w ∈ wsX6_digest, w.before args s = true) (hown : s.vm.findClass RX6 = some m.cls) (hlocks : meth.locks = false) (hml : c0.maxLocals = 5) (hKK : mh_K D d cB s) {Q : State → Prop} (kK : ∀ (H : Heap) (locs : List Loc), mm_W D d cB L m0 0 ρ A H → va_S A s.heap H locs → ∀ ls : Array Slot, lv_has ls 5 [(1, .long (mp_gRs ρ F g R)), (0, .ref m0)] → W p l e (({ frames := 8, cells := 1425, slots := 11415, locals := 320 } : Room)) s m args below meth c0 H locs (1385 + 4 * R) (11155 + 16 * R) Q (F0 m 300 ls [])) : ∀ (kk n : Nat), n + kk = R → (∀ q, s.heap.size ≤ q → A q) → ∀ (H : Heap) (locs : List Loc), mm_W D d cB L m0 0 ρ A H → va_S A s.heap H locs → ∀ ls : Array Slot, lv_has ls 5 [(3, .int (nI n)), (1, .long (mp_gRs ρ F g n)), (0, .ref m0)] → W p l e (({ frames := 8, cells := 1425, slots := 11415, locals := 320 } : Room)) s m args below meth c0 H locs (1385 + 4 * n) (11155 + 16 * n) Q (F0 m 253 ls []) := by
  intro kk
  induction kk with
  | zero =>
    intro n hn hAz H locs hM hS ls hl
    have hnN : n = R := by omega
    have hW := hM.2.1
    have h10 := hok.1
    have hF8 := hok.2.1
    have hR5 := hok.2.2.1
    refine lv_iload_n hx hb dX6_digest_253 rfl (lv_at hl 0 rfl) ?_
    refine lv_aload_n hx hb dX6_digest_254 rfl (lv_at hl 2 rfl) ?_
    refine mm_house hx hb hts (by decide +kernel) hown hKK.1 hM (hts (.fieldLink RX6 10 "WaxrowModel" "house" "LWaxrowModel$House;") (by decide +kernel)) dX6_digest_255 ?_
    have hW := hM.2.1
    refine mh_get hx hb hts (by decide +kernel) hown hKK.1 hW 8 (by decide) (hts (.fieldLink RX6 39 "WaxrowModel$House" "roomCount" "I") (by decide +kernel)) rfl (v := .int (ρ 0 0 8)) rfl dX6_digest_258 ?_
    rw [show ρ 0 0 8 = nI R from hok.2.2.2.2.2.1]
    refine lv_icmp_ge (tgt := 300) hx hb dX6_digest_261 (by decide) (fun c_261 => ?_) (fun c_261 => ?_)
    · subst hnN
      exact kK _ _ hM hS ls (lv_sub hl [1, 2] rfl)
    · exact absurd (by rw [hnN]; exact nI_le (a := R) (b := R) (Nat.le_refl _) (by omega)) c_261
  | succ kk ih =>
    intro n hn hAz H locs hM hS ls hl
    have hnN : n < R := by omega
    have hW := hM.2.1
    have h10 := hok.1
    have hF8 := hok.2.1
    have hR5 := hok.2.2.1
    refine lv_iload_n hx hb dX6_digest_253 rfl (lv_at hl 0 rfl) ?_
    refine lv_aload_n hx hb dX6_digest_254 rfl (lv_at hl 2 rfl) ?_
    refine mm_house hx hb hts (by decide +kernel) hown hKK.1 hM (hts (.fieldLink RX6 10 "WaxrowModel" "house" "LWaxrowModel$House;") (by decide +kernel)) dX6_digest_255 ?_
    have hW := hM.2.1
    refine mh_get hx hb hts (by decide +kernel) hown hKK.1 hW 8 (by decide) (hts (.fieldLink RX6 39 "WaxrowModel$House" "roomCount" "I") (by decide +kernel)) rfl (v := .int (ρ 0 0 8)) rfl dX6_digest_258 ?_
    rw [show ρ 0 0 8 = nI R from hok.2.2.2.2.2.1]
    refine lv_icmp_ge (tgt := 300) hx hb dX6_digest_261 (by decide) (fun c_261 => ?_) (fun c_261 => ?_)
    · exact absurd c_261 (nI_ge (b := R) hnN (by omega))
    · refine lv_iconst (v := 0) hx hb dX6_digest_264 (by decide) ?_
      refine lv_istore (lv' := [(4, .int 0), (3, .int (nI n)), (1, .long (mp_gRs ρ F g n)), (0, .ref m0)]) hx hb dX6_digest_265 hl (by decide) rfl (fun ls hl => ?_)
      refine lkX6_digest267 l D d cB L m0 0 ρ A sz P F R hok n hnN (mp_gRs ρ F g n) hx hb hr hts hown hlocks hml hKK (fun H locs hM hS ls hl => ?_) 4 0 (by omega) hAz _ _ hM hS ls (lv_sub hl [0, 2, 1, 3] rfl)
      have hW := hM.2.1
      refine lv_iinc (v := nI (n + 1)) (lv' := [(3, .int (nI (n + 1))), (1, .long (mp_gR ρ F n (mp_gRs ρ F g n) 4)), (0, .ref m0)]) hx hb dX6_digest_294 hl (k := 1) rfl (nI_succ _).symm (by decide) rfl (fun ls hl => ?_)
      refine lv_goto (tgt := 253) hx hb dX6_digest_297 (by decide) ?_
      have hM : mm_W D d cB L m0 0 ρ A H := hM
      refine W.widen (k := (1385 + 4 * (n + 1))) (n := (11155 + 16 * (n + 1))) (by omega) (by omega) ?_
      exact ih (n + 1) (by omega) hAz _ _ hM hS ls (lv_sub hl [0, 1, 2] rfl)
set_option maxHeartbeats 4000000 in
set_option maxRecDepth 100000 in
/-- the reference: X6_digest -/
theorem kX6_digest (l : Launch) (D : va_G) (d : hs_Dm) (cB : ClassId) (L : hs_Lo) (m0 : Nat) (th : Int32) (ρ : hs_St) (A : Nat → Prop) (sz : Nat) (P F R : Nat) (hok : mh_ok P F R ρ) (hA : mh_A A sz) : mm_Ml l yX6_digest wsX6_digest ({ frames := 8, cells := 1425, slots := 11415, locals := 320 } : Room) D d cB L m0 th ρ A sz [.ref m0] (fun r X => mp_dig ρ P F R = r ∧ (0 : Int32) = X.1 ∧ ρ = X.2) 1425 11415 := by
  refine Met.ofW (cc := cX6_digest) (maxL := 5) (ret := (some .long)) (by decide) rfl ?_
  intro p e s m args below meth c0 s₁ B hml hv
  obtain ⟨rfl, hsz, hM, hKK⟩ := hv
  have hx := B.exec
  have hb := B.bytes
  have hr := B.returns
  have hts := atoms_spec (ws := wsX6_digest) B.pre
  have hown : s.vm.findClass RX6 = some m.cls := findClass_of_methodNamed B.named
  have hlocks := B.notSynchronized
  have hS : va_S A s.heap s.heap [] := va_S.rf
  have hl := lv_entry ([.ref m0]) (n := 5) (Nat.le_of_ble_eq_true rfl)
  rw [lg_entry_eq]
  generalize (lg_sl ([.ref m0]) ++ List.replicate (5 - (lg_sl ([.ref m0])).length) Slot.unset).toArray = ls at hl ⊢
  have hl : lv_has ls 5 [(0, .ref m0)] := hl
  have h10 := hok.1
  have hF8 := hok.2.1
  have hR5 := hok.2.2.1
  have hAz : ∀ q, s.heap.size ≤ q → A q := fun q h9 => hA q (by rw [hsz] at h9; exact h9)
  refine lv_aload_n hx hb dX6_digest_0 rfl (lv_at hl 0 rfl) ?_
  refine lv_iconst (v := 0) hx hb dX6_digest_1 (by decide) ?_
  refine mm_putt hx hb hts (by decide +kernel) hown hKK.1 hM hS (hts (.fieldLink RX6 16 "WaxrowModel" "thrown" "I") (by decide +kernel)) (0 : Int32) dX6_digest_2 (fun H locs hM hS hz => ?_)
  have hM : mm_W D d cB L m0 0 ρ A H := hM
  have hW := hM.2.1
  refine lv_ldc2 (v := 58234) hx hb hown (hts (.constantLong RX6 179 58234) (by decide +kernel)) dX6_digest_5 ?_
  refine lv_lstore_n (lv' := [(1, .long 58234), (0, .ref m0)]) hx hb dX6_digest_8 rfl hl (by decide) rfl (fun ls hl => ?_)
  refine lv_iconst (v := 0) hx hb dX6_digest_9 (by decide) ?_
  refine lv_istore_n (lv' := [(3, .int 0), (1, .long 58234), (0, .ref m0)]) hx hb dX6_digest_10 rfl hl (by decide) rfl (fun ls hl => ?_)
  refine W.widen (k := 0) (n := (15 * 0)) (by omega) (by omega) ?_
  refine lkX6_digest11 l D d cB L m0 0 ρ A sz P F R hok hx hb hr hts hown hlocks hml hKK (fun H locs hM hS ls hl => ?_) 15 0 (by omega) hAz _ _ hM hS ls (lv_sub hl [0, 1, 2] rfl)
  have hW := hM.2.1
  refine lv_iconst (v := 0) hx hb dX6_digest_36 (by decide) ?_
  refine lv_istore_n (lv' := [(3, .int 0), (1, .long (mp_gM ρ P F R 15)), (0, .ref m0)]) hx hb dX6_digest_37 rfl hl (by decide) rfl (fun ls hl => ?_)
  refine W.widen (k := (15 + 0)) (n := (225 + 9 * 0)) (by omega) (by omega) ?_
  refine lkX6_digest38 l D d cB L m0 0 ρ A sz P F R hok (mp_gM ρ P F R 15) hx hb hr hts hown hlocks hml hKK (fun H locs hM hS ls hl => ?_) P 0 (by omega) hAz _ _ hM hS ls (lv_sub hl [0, 1, 2] rfl)
  have hW := hM.2.1
  refine lv_iconst (v := 0) hx hb dX6_digest_156 (by decide) ?_
  refine lv_istore_n (lv' := [(3, .int 0), (1, .long (mp_gPs ρ F (mp_gM ρ P F R 15) P)), (0, .ref m0)]) hx hb dX6_digest_157 rfl hl (by decide) rfl (fun ls hl => ?_)
  refine W.widen (k := (25 + 170 * 0)) (n := (315 + 1355 * 0)) (by omega) (by omega) ?_
  refine lkX6_digest158 l D d cB L m0 0 ρ A sz P F R hok (mp_gPs ρ F (mp_gM ρ P F R 15) P) hx hb hr hts hown hlocks hml hKK (fun H locs hM hS ls hl => ?_) F 0 (by omega) hAz _ _ hM hS ls (lv_sub hl [0, 1, 2] rfl)
  have hW := hM.2.1
  refine lv_iconst (v := 0) hx hb dX6_digest_251 (by decide) ?_
  refine lv_istore_n (lv' := [(3, .int 0), (1, .long (mp_gFs ρ P F (mp_gPs ρ F (mp_gM ρ P F R 15) P) F)), (0, .ref m0)]) hx hb dX6_digest_252 rfl hl (by decide) rfl (fun ls hl => ?_)
  refine W.widen (k := (1385 + 4 * 0)) (n := (11155 + 16 * 0)) (by omega) (by omega) ?_
  refine lkX6_digest253 l D d cB L m0 0 ρ A sz P F R hok (mp_gFs ρ P F (mp_gPs ρ F (mp_gM ρ P F R 15) P) F) hx hb hr hts hown hlocks hml hKK (fun H locs hM hS ls hl => ?_) R 0 (by omega) hAz _ _ hM hS ls (lv_sub hl [0, 1, 2] rfl)
  have hW := hM.2.1
  refine lv_lload_n hx hb dX6_digest_300 rfl (lv_at hl 0 rfl) ?_
  refine lv_ldc2 (v := 31) hx hb hown (hts (.constantLong RX6 181 31) (by decide +kernel)) dX6_digest_301 ?_
  refine lv_lmul hx hb dX6_digest_304 ?_
  refine lv_aload_n hx hb dX6_digest_305 rfl (lv_at hl 1 rfl) ?_
  refine mm_calli (As := []) ⟨hx, hb, hml, hown, hts⟩ (kX6_nextNow l D d cB L m0 (0 : Int32) ρ A H.size P F R hok (fun q h => hAz q (Nat.le_trans hS.1 h))) (cwV 0 hts gX6_digest_X6_nextNow rfl rfl rfl (by decide +kernel) ⟨Nat.le_of_ble_eq_true rfl, Nat.le_of_ble_eq_true rfl⟩) hKK hM hS rfl hl.1 (Nat.le_of_ble_eq_true rfl) dX6_digest_306 ⟨by show _ ≤ 1425; omega, by show _ ≤ 11415; omega⟩ rfl (fun r_ X_ H locs hp hM hz hS => ?_)
  obtain ⟨t_, τ_⟩ := X_
  obtain ⟨e1_, e2_, e3_⟩ := hp
  have e2_ : (0 : Int32) = t_ := e2_
  have e3_ : ρ = τ_ := e3_
  subst e1_ e2_ e3_
  have hM : mm_W D d cB L m0 0 ρ A H := hM
  have hW := hM.2.1
  refine lv_i2l hx hb dX6_digest_309 rfl ?_
  refine lv_ladd hx hb dX6_digest_310 ?_
  refine W.widen (k := 1425) (n := 11415) (by omega) (by omega) ?_
  exact W.lret (v := ((mp_gRs ρ F (mp_gFs ρ P F (mp_gPs ρ F (mp_gM ρ P F R 15) P) F) R) * 31) + ((mp_bi (mp_next ρ F P)).toInt64)) hx hb hr (fun t ht hW9 => ⟨⟨((mp_gRs ρ F (mp_gFs ρ P F (mp_gPs ρ F (mp_gM ρ P F R 15) P) F) R) * 31) + ((mp_bi (mp_next ρ F P)).toInt64), (0, ρ), rfl, ⟨rfl, rfl, rfl⟩, by show mm_W D d cB L m0 _ _ A t.heap; rw [ht]; exact hM⟩, hS.F ht⟩) hS.2.2 dX6_digest_311
set_option maxHeartbeats 4000000 in
set_option maxRecDepth 100000 in
/-- the reference: X6_thrown -/
theorem kX6_thrown (l : Launch) (D : va_G) (d : hs_Dm) (cB : ClassId) (L : hs_Lo) (m0 : Nat) (th : Int32) (ρ : hs_St) (A : Nat → Prop) (sz : Nat)  : mm_Mi l yX6_thrown wsX6_thrown ({ frames := 0, cells := 0, slots := 0, locals := 0 } : Room) D d cB L m0 th ρ A sz [.ref m0] (fun r X => th = r ∧ th = X.1 ∧ ρ = X.2) 0 0 := by
  refine Met.ofW (cc := cX6_thrown) (maxL := 1) (ret := (some .int)) (by decide) rfl ?_
  intro p e s m args below meth c0 s₁ B hml hv
  obtain ⟨rfl, hsz, hM, hKK⟩ := hv
  have hx := B.exec
  have hb := B.bytes
  have hr := B.returns
  have hts := atoms_spec (ws := wsX6_thrown) B.pre
  have hown : s.vm.findClass RX6 = some m.cls := findClass_of_methodNamed B.named
  have hlocks := B.notSynchronized
  have hS : va_S A s.heap s.heap [] := va_S.rf
  have hl := lv_entry ([.ref m0]) (n := 1) (Nat.le_of_ble_eq_true rfl)
  rw [lg_entry_eq]
  generalize (lg_sl ([.ref m0]) ++ List.replicate (1 - (lg_sl ([.ref m0])).length) Slot.unset).toArray = ls at hl ⊢
  have hl : lv_has ls 1 [(0, .ref m0)] := hl
  refine lv_aload_n hx hb dX6_thrown_0 rfl (lv_at hl 0 rfl) ?_
  refine mm_getth hx hb hts (by decide +kernel) hown hKK.1 hM (hts (.fieldLink RX6 16 "WaxrowModel" "thrown" "I") (by decide +kernel)) dX6_thrown_1 ?_
  exact W.iret (v := th) hx hb hr (fun t ht hW9 => ⟨⟨th, (th, ρ), rfl, ⟨rfl, rfl, rfl⟩, by show mm_W D d cB L m0 _ _ A t.heap; rw [ht]; exact hM⟩, hS.F ht⟩) hS.2.2 dX6_thrown_4
