/-! THE REFERENCE'S WORK -/
def mp_needs : Nat → Int32 := fun j => match j with
  | 0 => 4
  | 1 => 10
  | 2 => 3
  | 3 => 2
  | 4 => 12
  | 5 => 5
  | _ => 0
/-- no house is asked, new cells may come -/
def nd_C (D : va_G) (d : hs_Dm) (sz : Nat) (U : State) : Prop := U.heap.size = sz ∧ va_K D vwCl (hs_ty d) U
theorem nd_blind {D : va_G} {d : hs_Dm} {sz : Nat} {av : List Value} : FrameBlind (va_Pc av (nd_C D d sz)) := fun a U g mk q => by
  obtain ⟨q0, q1, q2⟩ := q
  exact ⟨q0, q1, va_K.moved (u := U) (U := U.calling g mk a) (Vm.Alike.refl U.vm) q2⟩
section NDR
variable {p : Program} {l : Launch} {e : Env} {R : Room} {s : State} {m : MethodId} {args : Array Value} {below : List Frame} {meth : Method} {c0 : Code} {H : Heap} {locs : List Loc} {cells slots : Nat} {Q : State → Prop}
variable {cc : ByteArray} {pc : Nat} {ls : Array Slot} {rest : List Value} {D : va_G} {d : hs_Dm} {cB : ClassId} {L : hs_Lo} {A : Nat → Prop} {ρ : hs_St} {H0 : Heap}
variable {bytes : ByteArray} {maxL nL na index : Nat} {ret : Option FieldType} {Ts : List Cond} {own : String} {st : List Value}
theorem nd_newa (hexec : p.tables.exec = Jvm.exec) (hb : c0.code = cc) (harr : (Cond.arrayClass .int).before args s = true) (hK : va_K D vwCl (hs_ty d) s) (hAz : ∀ q, H0.size ≤ q → A q) (hS : va_S A H0 H locs)
    {i : Int32} {N' : Nat} (hn : ¬ i < 0) (hN : i.toNatClampNeg = N') (hbytes : N' * 4 ≤ 536870912) (hcells : cells + 1 ≤ R.cells) (hslots : slots + N' ≤ R.slots) (hdg : decode cc pc = .ok (.newarray .int, 2))
    (kk : ∀ (H1 : Heap) (v : Nat), A v → va_at D vwCl (v, .inl (d.1, N', .inl (fun _ => 0))) H1 → H1.size = H.size + 1 → va_S A H0 H1 locs → W p l e R s m args below meth c0 H1 locs (cells + 1) (slots + N') Q (F0 m (pc + 2) ls (.ref v :: rest))) : W p l e R s m args below meth c0 H locs cells slots Q (F0 m pc ls (.int i :: rest)) := by
  refine va_newaK hexec hb (atype := .int) harr (g := F0 m pc ls (.int i :: rest)) rfl hdg rfl hn hN hbytes hcells hslots rfl fun H1 cA e1 z1 o1 hA hf => ?_
  have hcA : cA = d.1 := Option.some.inj (hf.symm.trans (rg_iarr hK))
  subst hcA
  exact kk H1 H.size (hAz _ hS.1) (by show H1[H.size]? = some (vp_cell _ _); rw [vp_cell_i]; exact e1) (by omega) (rg_S hS (by omega) (fun q hq => o1 q hq))
theorem nd_iast (hexec : p.tables.exec = Jvm.exec) (hb : c0.code = cc) (hK : va_K D vwCl (hs_ty d) s) (hS : va_S A H0 H locs) {v N' : Nat} {f : Nat → Int32} (hv : va_at D vwCl (v, .inl (d.1, N', .inl f)) H) (hA : A v) {i x : Int32} (hin : vp_in i N') (hdg : decode cc pc = .ok (.iastore, 1))
    (kk : ∀ (H1 : Heap) (locs1 : List Loc), va_at D vwCl (v, .inl (d.1, N', .inl (upd f i.toNatClampNeg x))) H1 → H1.size = H.size → (∀ q : Nat, q ≠ v → H1[q]? = H[q]?) → va_S A H0 H1 locs1 → W p l e R s m args below meth c0 H1 locs1 cells slots Q (F0 m (pc + 1) ls rest)) : W p l e R s m args below meth c0 H locs cells slots Q (F0 m pc ls (.int x :: .int i :: .ref v :: rest)) := by
  refine W.iast hexec hb hv ((hK.2 0 _ rfl).1 N' (fun j => .int (f j))) (fun q => by cases q) (by show ¬ (i < 0 ∨ (arrV _ _ _).slots.size ≤ _); rw [arrV_size]; exact hin) rfl rfl hdg fun H1 e z oq => ?_
  refine kk H1 _ ?_ z oq (hS.put z oq hA)
  show H1[v]? = some (vp_cell _ _)
  rw [e]
  rw [vp_cell_i, vp_cell_i, arrV_store]
  congr 2
  funext z
  by_cases hq : z = i.toNatClampNeg
  · subst hq
    simp [updV, upd]
  · simp [updV, upd, hq]
/-- the house asks what a step needs -/
theorem mh_needs {rm : Room} {ws : List Cond} {y : MethodName} {j : Nat} (S : CallFix p m c0 cc nL s args Ts own) (hM : Met l y ws rm (va_Pc [.int (nI j)] (nd_C D d H.size)) (va_Qi (fun r (_ : Unit) => r = mp_needs j) (fun _ _ => True) (fun q => H.size ≤ q)) 1 7 (fun q => H.size ≤ q)) (cw : va_CN R s args own index y RX6 bytes maxL ret ws rm 1 7 na ∧ (Cond.static y).before args s = true ∧ True) (hK : va_K D vwCl (hs_ty d) s) (hAz : ∀ q, s.heap.size ≤ q → A q) (hW : mh_W D d.1 cB L ρ A H) (hS : va_S A s.heap H locs) (hn : 1 = na) (hsize : ls.size = nL) (hrest : (rest.map fun v => v.category).sum ≤ 8) (hdg : decode cc pc = .ok (.invokestatic index, 3)) (hf : cells + 1 ≤ R.cells ∧ slots + 7 ≤ R.slots) (hst : st = .int (nI j) :: rest)
    (kk : ∀ (H1 : Heap) (locs1 : List Loc), mh_W D d.1 cB L ρ A H1 → H.size ≤ H1.size → va_S A s.heap H1 locs1 → W p l e R s m args below meth c0 H1 locs1 (cells + 1) (slots + 7) Q (F0 m (pc + 3) ls (.int (mp_needs j) :: rest))) : W p l e R s m args below meth c0 H locs cells slots Q (F0 m pc ls st) := by
  subst hst
  have hA9 : ∀ q, H.size ≤ q → A q := fun q h => hAz q (Nat.le_trans hS.1 h)
  refine va_calli (va_runSN (As := [.int (nI j)]) S hM cw ⟨nd_blind, fun U hU hW2 => ⟨rfl, by rw [hU], va_K.moved hW2.alike hK⟩⟩ rfl hn hsize rfl (lv_room hrest) hdg hf) hS (fun q _ h => hA9 q h) (fun q h => hA9 q h) (fun r u t H1 locs1 ht _ hp _ hz hq hS1 => ?_)
  subst hp
  exact kk H1 locs1 (hW.all (fun q h => hq q h (Nat.not_le.mpr h))) hz hS1
end NDR
set_option maxHeartbeats 4000000 in
set_option maxRecDepth 100000 in
/-- the reference: needs -/
theorem kX6_needs (l : Launch) (D : va_G) (d : hs_Dm) (sz j : Nat) (hj : j ≤ 6) : Met l yX6_needs wsX6_needs ({ frames := 0, cells := 1, slots := 7, locals := 0 } : Room) (va_Pc [.int (nI j)] (nd_C D d sz)) (va_Qi (fun r (_ : Unit) => r = mp_needs j) (fun _ _ => True) (fun q => sz ≤ q)) 1 7 (fun q => sz ≤ q) := by
  refine Met.ofW (cc := cX6_needs) (maxL := 2) (ret := (some .int)) (by decide) rfl ?_
  intro p e s m args below meth c0 s₁ B hml hv
  obtain ⟨rfl, hsz, hK⟩ := hv
  have hx := B.exec
  have hb := B.bytes
  have hr := B.returns
  have hts := atoms_spec (ws := wsX6_needs) B.pre
  have hown : s.vm.findClass RX6 = some m.cls := findClass_of_methodNamed B.named
  have hlocks := B.notSynchronized
  have hAz : ∀ q, s.heap.size ≤ q → (fun q : Nat => sz ≤ q) q := by rw [hsz]; exact fun q h => h
  have hS : va_S (fun q : Nat => sz ≤ q) s.heap s.heap [] := va_S.rf
  have hl := lv_entry ([.int (nI j)]) (n := 2) (Nat.le_of_ble_eq_true rfl)
  rw [lg_entry_eq]
  generalize (lg_sl ([.int (nI j)]) ++ List.replicate (2 - (lg_sl ([.int (nI j)])).length) Slot.unset).toArray = ls at hl ⊢
  have hl : lv_has ls 2 [(0, .int (nI j))] := hl
  refine lv_bipush (v := 7) hx hb dX6_needs_0 (by decide) ?_
  refine nd_newa hx hb (hts (.arrayClass .int) (by decide +kernel)) hK hAz hS (by decide) (N' := 7) rfl (by decide) (Nat.le_of_ble_eq_true rfl) (Nat.le_of_ble_eq_true rfl) dX6_needs_2 (fun H v hA hv hz hS => ?_)
  refine lv_dup hx hb dX6_needs_4 rfl ?_
  refine lv_iconst (v := 0) hx hb dX6_needs_5 (by decide) ?_
  refine lv_iconst (v := 4) hx hb dX6_needs_6 (by decide) ?_
  refine nd_iast hx hb hK hS hv hA (i := 0) (x := 4) (by unfold vp_in; decide) dX6_needs_7 (fun H locs hv hz hq hS => ?_)
  rw [show (0 : Int32).toNatClampNeg = 0 from by decide] at hv
  refine lv_dup hx hb dX6_needs_8 rfl ?_
  refine lv_iconst (v := 1) hx hb dX6_needs_9 (by decide) ?_
  refine lv_bipush (v := 10) hx hb dX6_needs_10 (by decide) ?_
  refine nd_iast hx hb hK hS hv hA (i := 1) (x := 10) (by unfold vp_in; decide) dX6_needs_12 (fun H locs hv hz hq hS => ?_)
  rw [show (1 : Int32).toNatClampNeg = 1 from by decide] at hv
  refine lv_dup hx hb dX6_needs_13 rfl ?_
  refine lv_iconst (v := 2) hx hb dX6_needs_14 (by decide) ?_
  refine lv_iconst (v := 3) hx hb dX6_needs_15 (by decide) ?_
  refine nd_iast hx hb hK hS hv hA (i := 2) (x := 3) (by unfold vp_in; decide) dX6_needs_16 (fun H locs hv hz hq hS => ?_)
  rw [show (2 : Int32).toNatClampNeg = 2 from by decide] at hv
  refine lv_dup hx hb dX6_needs_17 rfl ?_
  refine lv_iconst (v := 3) hx hb dX6_needs_18 (by decide) ?_
  refine lv_iconst (v := 2) hx hb dX6_needs_19 (by decide) ?_
  refine nd_iast hx hb hK hS hv hA (i := 3) (x := 2) (by unfold vp_in; decide) dX6_needs_20 (fun H locs hv hz hq hS => ?_)
  rw [show (3 : Int32).toNatClampNeg = 3 from by decide] at hv
  refine lv_dup hx hb dX6_needs_21 rfl ?_
  refine lv_iconst (v := 4) hx hb dX6_needs_22 (by decide) ?_
  refine lv_bipush (v := 12) hx hb dX6_needs_23 (by decide) ?_
  refine nd_iast hx hb hK hS hv hA (i := 4) (x := 12) (by unfold vp_in; decide) dX6_needs_25 (fun H locs hv hz hq hS => ?_)
  rw [show (4 : Int32).toNatClampNeg = 4 from by decide] at hv
  refine lv_dup hx hb dX6_needs_26 rfl ?_
  refine lv_iconst (v := 5) hx hb dX6_needs_27 (by decide) ?_
  refine lv_iconst (v := 5) hx hb dX6_needs_28 (by decide) ?_
  refine nd_iast hx hb hK hS hv hA (i := 5) (x := 5) (by unfold vp_in; decide) dX6_needs_29 (fun H locs hv hz hq hS => ?_)
  rw [show (5 : Int32).toNatClampNeg = 5 from by decide] at hv
  refine lv_dup hx hb dX6_needs_30 rfl ?_
  refine lv_bipush (v := 6) hx hb dX6_needs_31 (by decide) ?_
  refine lv_iconst (v := 0) hx hb dX6_needs_33 (by decide) ?_
  refine nd_iast hx hb hK hS hv hA (i := 6) (x := 0) (by unfold vp_in; decide) dX6_needs_34 (fun H locs hv hz hq hS => ?_)
  rw [show (6 : Int32).toNatClampNeg = 6 from by decide] at hv
  refine lv_astore_n (lv' := [(1, .ref v), (0, .int (nI j))]) hx hb dX6_needs_35 rfl hl (by decide) rfl (fun ls hl => ?_)
  refine lv_aload_n hx hb dX6_needs_36 rfl (lv_at hl 0 rfl) ?_
  refine lv_iload_n hx hb dX6_needs_37 rfl (lv_at hl 1 rfl) ?_
  refine mh_niald hx hb hK hv (i := nI j) (by unfold vp_in; exact nI_in (show j < 7 by omega) (by decide)) dX6_needs_38 ?_
  rw [nI_clamp (by omega)]
  rw [show upd (upd (upd (upd (upd (upd (upd (fun _ => 0) 0 4) 1 10) 2 3) 3 2) 4 12) 5 5) 6 0 j = mp_needs j from by rcases (show j = 0 ∨ j = 1 ∨ j = 2 ∨ j = 3 ∨ j = 4 ∨ j = 5 ∨ j = 6 by omega) with rfl | rfl | rfl | rfl | rfl | rfl | rfl <;> rfl]
  exact W.iret (v := mp_needs j) hx hb hr (fun t ht hW9 => ⟨⟨mp_needs j, (), rfl, rfl, trivial⟩, hS.F ht⟩) hS.2.2 dX6_needs_39
def mp_put (ρ : hs_St) (f : Nat) : hs_St := hs_sg (hs_sg ρ 14 f 2 (ρ 14 f 2 + 1)) 14 f 3 (mp_needs (ρ 14 f 2 + 1).toNatClampNeg)
def mp_step (ρ : hs_St) (f : Nat) : hs_St := if ρ 14 f 2 + 1 = 1 then hs_sg (mp_put ρ f) 14 f 5 (mp_doubt ρ (ρ 14 f 0).toNatClampNeg) else mp_put ρ f
def mp_climb (f : Nat) : Nat → Int32 → hs_St → Int32 × hs_St
  | 0, w, ρ => (w, ρ)
  | k + 1, w, ρ => if w < ρ 14 f 3 then (w, ρ) else if 6 ≤ ρ 14 f 2 then (w, ρ) else mp_climb f k (w - ρ 14 f 3) (mp_step ρ f)
/-- how many steps it climbs -/
def mp_adv (f : Nat) : Nat → Int32 → hs_St → Nat
  | 0, _, _ => 0
  | k + 1, w, ρ => if w < ρ 14 f 3 then 0 else if 6 ≤ ρ 14 f 2 then 0 else 1 + mp_adv f k (w - ρ 14 f 3) (mp_step ρ f)
theorem mp_adv_le (f : Nat) : ∀ k w ρ, mp_adv f k w ρ ≤ k
  | 0, w, ρ => Nat.le_refl _
  | k + 1, w, ρ => by
    unfold mp_adv
    split
    · omega
    · split
      · omega
      · have := mp_adv_le f k (w - ρ 14 f 3) (mp_step ρ f)
        omega
def mp_fin (f : Nat) (x : Int32 × hs_St) : Int32 × hs_St := if 6 ≤ x.2 14 f 2 then (1, hs_sg x.2 14 f 4 0) else (0, hs_sg x.2 14 f 3 (x.2 14 f 3 - x.1))
def mp_work (ρ : hs_St) (f : Nat) : Int32 × hs_St := mp_fin f (mp_climb f (6 - (ρ 14 f 2).toNatClampNeg) (ρ 14 f 4) ρ)
def mp_wadv (ρ : hs_St) (f : Nat) : Nat := mp_adv f (6 - (ρ 14 f 2).toNatClampNeg) (ρ 14 f 4) ρ
theorem mp_doubt_sg (ρ : hs_St) (f j q : Nat) (v : Int32) : mp_doubt (hs_sg ρ 14 f j v) q = mp_doubt ρ q := by
  have h : ∀ n, mp_width (hs_sg ρ 14 f j v) q n = mp_width ρ q n := fun n => by
    induction n with
    | zero => rfl
    | succ n ih =>
      show mp_width (hs_sg ρ 14 f j v) q n + (hs_sg ρ 14 f j v 13 q n - hs_sg ρ 14 f j v 12 q n) = _
      rw [ih]
      rfl
  unfold mp_doubt
  rw [h]
theorem pc9 {σ : hs_St} {a b c k i j : Nat} {v : Int32} : hs_sg σ a b c v k i j = if k = a ∧ i = b ∧ j = c then v else σ k i j := rfl
set_option maxHeartbeats 4000000 in
set_option maxRecDepth 100000 in
/-- the reference: work: the loop at 4 -/
theorem lkX5_work (l : Launch) (D : va_G) (d : hs_Dm) (cB : ClassId) (L : hs_Lo) (A : Nat → Prop) (ρ0 : hs_St) (f : Nat) (hf : f < 8) (h0 : Nat) (h0l : h0 < 10) (h0e : ρ0 14 f 0 = nI h0) (h6 : mp_wadv ρ0 f ≤ 6) {p : Program} {e : Env} {s : State} {m : MethodId} {args : Array Value} {below : List Frame} {meth : Method} {c0 : Code} (hx : p.tables.exec = Jvm.exec) (hb : c0.code = cX5_work) (hr : meth.sig.returnType = (some .int)) (hts : ∀ w ∈ wsX5_work, w.before args s = true) (hown : s.vm.findClass RX5 = some m.cls) (hlocks : meth.locks = false) (hml : c0.maxLocals = 3) (hKK : mh_K D d cB s) (hAz : ∀ q, s.heap.size ≤ q → A q) : ∀ (k : Nat) (w : Int32) (ρ : hs_St) (c : Nat), k ≤ 6 → ρ 14 f 2 = nI (6 - k) → ρ 14 f 0 = nI h0 → mp_work ρ0 f = mp_fin f (mp_climb f k w ρ) → c + mp_adv f k w ρ = mp_wadv ρ0 f → ∀ (H : Heap) (locs : List Loc), mh_W D d.1 cB L ρ A H → va_S A s.heap H locs → ∀ ls : Array Slot, lv_has ls 3 [(2, .int w), (0, .ref (L 0 0)), (1, .ref (L 14 f))] → W p l e ({ frames := 1, cells := mp_wadv ρ0 f, slots := 7 * mp_wadv ρ0 f, locals := 40 } : Room) s m args below meth c0 H locs c (7 * c) (MQ below (va_Qi (fun r τ => mp_work ρ0 f = (r, τ)) (fun τ t => mh_W D d.1 cB L τ A t.heap) A) args s (mp_wadv ρ0 f) (7 * mp_wadv ρ0 f) A) (F0 m 4 ls []) := by
  intro k
  induction k with
  | zero =>
    intro w ρ c hk hst h0e_ hw_ hc_ H locs hW hS ls hl
    have hc9 : c = mp_wadv ρ0 f := by unfold mp_adv at hc_; omega
    refine lv_iload_n hx hb dX5_work_4 rfl (lv_at hl 0 rfl) ?_
    refine lv_aload_n hx hb dX5_work_5 rfl (lv_at hl 2 rfl) ?_
    refine lv_iconst (v := 3) hx hb dX5_work_6 (by decide) ?_
    refine mh_iald hx hb hKK.1 hW 14 f (by decide) (mh_ixR (k := 4) (by decide) (by decide) (by show f < mh_n 4; unfold mh_n; simp; omega)) (i := 3) (by unfold vp_in; decide) dX5_work_7 ?_
    rw [show (3 : Int32).toNatClampNeg = 3 from by decide]
    refine lv_icmp_lt (tgt := 61) hx hb dX5_work_8 (by decide) (fun c_8 => ?_) (fun c_8 => ?_)
    · rw [show mp_climb f 0 w ρ = (w, ρ) from rfl] at hw_
      refine lv_aload_n hx hb dX5_work_61 rfl (lv_at hl 2 rfl) ?_
      refine lv_iconst (v := 2) hx hb dX5_work_62 (by decide) ?_
      refine mh_iald hx hb hKK.1 hW 14 f (by decide) (mh_ixR (k := 4) (by decide) (by decide) (by show f < mh_n 4; unfold mh_n; simp; omega)) (i := 2) (by unfold vp_in; decide) dX5_work_63 ?_
      rw [show (2 : Int32).toNatClampNeg = 2 from by decide]
      refine lv_bipush (v := 6) hx hb dX5_work_64 (by decide) ?_
      refine lv_icmp_ge (tgt := 78) hx hb dX5_work_66 (by decide) (fun c_66 => ?_) (fun c_66 => ?_)
      · refine lv_aload_n hx hb dX5_work_78 rfl (lv_at hl 2 rfl) ?_
        refine lv_iconst (v := 4) hx hb dX5_work_79 (by decide) ?_
        refine lv_iconst (v := 0) hx hb dX5_work_80 (by decide) ?_
        refine mh_iast hx hb hKK.1 hW hS 14 f (by decide) (mh_ixR (k := 4) (by decide) (by decide) (by show f < mh_n 4; unfold mh_n; simp; omega)) (i := 4) (x := 0) (by unfold vp_in; decide) dX5_work_81 (fun H locs hW hS hz hq => ?_)
        rw [show (4 : Int32).toNatClampNeg = 4 from by decide] at hW
        have hW : mh_W D d.1 cB L (hs_sg ρ 14 f 4 (0 : Int32)) A H := hW
        refine lv_iconst (v := 1) hx hb dX5_work_82 (by decide) ?_
        refine W.widen (k := mp_wadv ρ0 f) (n := 7 * mp_wadv ρ0 f) (by omega) (by omega) ?_
        exact W.iret (v := 1) hx hb hr (fun t ht hW9 => ⟨⟨1, hs_sg ρ 14 f 4 (0 : Int32), rfl, by rw [hw_]; unfold mp_fin; rw [if_pos c_66], by show mh_W D d.1 cB L _ A t.heap; rw [ht]; exact hW⟩, hS.F ht⟩) hS.2.2 dX5_work_83
      · refine lv_aload_n hx hb dX5_work_69 rfl (lv_at hl 2 rfl) ?_
        refine lv_iconst (v := 3) hx hb dX5_work_70 (by decide) ?_
        refine lv_dup2_11 hx hb dX5_work_71 rfl rfl ?_
        refine mh_iald hx hb hKK.1 hW 14 f (by decide) (mh_ixR (k := 4) (by decide) (by decide) (by show f < mh_n 4; unfold mh_n; simp; omega)) (i := 3) (by unfold vp_in; decide) dX5_work_72 ?_
        rw [show (3 : Int32).toNatClampNeg = 3 from by decide]
        refine lv_iload_n hx hb dX5_work_73 rfl (lv_at hl 0 rfl) ?_
        refine lv_isub hx hb dX5_work_74 ?_
        refine mh_iast hx hb hKK.1 hW hS 14 f (by decide) (mh_ixR (k := 4) (by decide) (by decide) (by show f < mh_n 4; unfold mh_n; simp; omega)) (i := 3) (x := (ρ 14 f 3) - w) (by unfold vp_in; decide) dX5_work_75 (fun H locs hW hS hz hq => ?_)
        rw [show (3 : Int32).toNatClampNeg = 3 from by decide] at hW
        have hW : mh_W D d.1 cB L (hs_sg ρ 14 f 3 ((ρ 14 f 3) - w)) A H := hW
        refine lv_iconst (v := 0) hx hb dX5_work_76 (by decide) ?_
        refine W.widen (k := mp_wadv ρ0 f) (n := 7 * mp_wadv ρ0 f) (by omega) (by omega) ?_
        exact W.iret (v := 0) hx hb hr (fun t ht hW9 => ⟨⟨0, hs_sg ρ 14 f 3 ((ρ 14 f 3) - w), rfl, by rw [hw_]; unfold mp_fin; rw [if_neg c_66], by show mh_W D d.1 cB L _ A t.heap; rw [ht]; exact hW⟩, hS.F ht⟩) hS.2.2 dX5_work_77
    · refine lv_aload_n hx hb dX5_work_11 rfl (lv_at hl 2 rfl) ?_
      refine lv_iconst (v := 2) hx hb dX5_work_12 (by decide) ?_
      refine mh_iald hx hb hKK.1 hW 14 f (by decide) (mh_ixR (k := 4) (by decide) (by decide) (by show f < mh_n 4; unfold mh_n; simp; omega)) (i := 2) (by unfold vp_in; decide) dX5_work_13 ?_
      rw [show (2 : Int32).toNatClampNeg = 2 from by decide]
      refine lv_bipush (v := 6) hx hb dX5_work_14 (by decide) ?_
      refine lv_icmp_ge (tgt := 61) hx hb dX5_work_16 (by decide) (fun c_16 => ?_) (fun c_16 => ?_)
      · rw [show mp_climb f 0 w ρ = (w, ρ) from rfl] at hw_
        refine lv_aload_n hx hb dX5_work_61 rfl (lv_at hl 2 rfl) ?_
        refine lv_iconst (v := 2) hx hb dX5_work_62 (by decide) ?_
        refine mh_iald hx hb hKK.1 hW 14 f (by decide) (mh_ixR (k := 4) (by decide) (by decide) (by show f < mh_n 4; unfold mh_n; simp; omega)) (i := 2) (by unfold vp_in; decide) dX5_work_63 ?_
        rw [show (2 : Int32).toNatClampNeg = 2 from by decide]
        refine lv_bipush (v := 6) hx hb dX5_work_64 (by decide) ?_
        refine lv_icmp_ge (tgt := 78) hx hb dX5_work_66 (by decide) (fun c_66 => ?_) (fun c_66 => ?_)
        · refine lv_aload_n hx hb dX5_work_78 rfl (lv_at hl 2 rfl) ?_
          refine lv_iconst (v := 4) hx hb dX5_work_79 (by decide) ?_
          refine lv_iconst (v := 0) hx hb dX5_work_80 (by decide) ?_
          refine mh_iast hx hb hKK.1 hW hS 14 f (by decide) (mh_ixR (k := 4) (by decide) (by decide) (by show f < mh_n 4; unfold mh_n; simp; omega)) (i := 4) (x := 0) (by unfold vp_in; decide) dX5_work_81 (fun H locs hW hS hz hq => ?_)
          rw [show (4 : Int32).toNatClampNeg = 4 from by decide] at hW
          have hW : mh_W D d.1 cB L (hs_sg ρ 14 f 4 (0 : Int32)) A H := hW
          refine lv_iconst (v := 1) hx hb dX5_work_82 (by decide) ?_
          refine W.widen (k := mp_wadv ρ0 f) (n := 7 * mp_wadv ρ0 f) (by omega) (by omega) ?_
          exact W.iret (v := 1) hx hb hr (fun t ht hW9 => ⟨⟨1, hs_sg ρ 14 f 4 (0 : Int32), rfl, by rw [hw_]; unfold mp_fin; rw [if_pos c_66], by show mh_W D d.1 cB L _ A t.heap; rw [ht]; exact hW⟩, hS.F ht⟩) hS.2.2 dX5_work_83
        · refine lv_aload_n hx hb dX5_work_69 rfl (lv_at hl 2 rfl) ?_
          refine lv_iconst (v := 3) hx hb dX5_work_70 (by decide) ?_
          refine lv_dup2_11 hx hb dX5_work_71 rfl rfl ?_
          refine mh_iald hx hb hKK.1 hW 14 f (by decide) (mh_ixR (k := 4) (by decide) (by decide) (by show f < mh_n 4; unfold mh_n; simp; omega)) (i := 3) (by unfold vp_in; decide) dX5_work_72 ?_
          rw [show (3 : Int32).toNatClampNeg = 3 from by decide]
          refine lv_iload_n hx hb dX5_work_73 rfl (lv_at hl 0 rfl) ?_
          refine lv_isub hx hb dX5_work_74 ?_
          refine mh_iast hx hb hKK.1 hW hS 14 f (by decide) (mh_ixR (k := 4) (by decide) (by decide) (by show f < mh_n 4; unfold mh_n; simp; omega)) (i := 3) (x := (ρ 14 f 3) - w) (by unfold vp_in; decide) dX5_work_75 (fun H locs hW hS hz hq => ?_)
          rw [show (3 : Int32).toNatClampNeg = 3 from by decide] at hW
          have hW : mh_W D d.1 cB L (hs_sg ρ 14 f 3 ((ρ 14 f 3) - w)) A H := hW
          refine lv_iconst (v := 0) hx hb dX5_work_76 (by decide) ?_
          refine W.widen (k := mp_wadv ρ0 f) (n := 7 * mp_wadv ρ0 f) (by omega) (by omega) ?_
          exact W.iret (v := 0) hx hb hr (fun t ht hW9 => ⟨⟨0, hs_sg ρ 14 f 3 ((ρ 14 f 3) - w), rfl, by rw [hw_]; unfold mp_fin; rw [if_neg c_66], by show mh_W D d.1 cB L _ A t.heap; rw [ht]; exact hW⟩, hS.F ht⟩) hS.2.2 dX5_work_77
      · exact absurd (by rw [hst]; decide +kernel) c_16
  | succ k ih =>
    intro w ρ c hk hst h0e_ hw_ hc_ H locs hW hS ls hl
    have hcl : (nI (6 - (k + 1) + 1)).toNatClampNeg = 6 - (k + 1) + 1 := nI_clamp (by omega)
    have hst2 : ρ 14 f 2 + 1 = nI (6 - (k + 1) + 1) := by rw [hst]; exact nI_1 _
    have hput : mp_put ρ f = hs_sg (hs_sg ρ 14 f 2 (nI (6 - (k + 1) + 1))) 14 f 3 (mp_needs (6 - (k + 1) + 1)) := by unfold mp_put; rw [hst2, hcl]
    refine lv_iload_n hx hb dX5_work_4 rfl (lv_at hl 0 rfl) ?_
    refine lv_aload_n hx hb dX5_work_5 rfl (lv_at hl 2 rfl) ?_
    refine lv_iconst (v := 3) hx hb dX5_work_6 (by decide) ?_
    refine mh_iald hx hb hKK.1 hW 14 f (by decide) (mh_ixR (k := 4) (by decide) (by decide) (by show f < mh_n 4; unfold mh_n; simp; omega)) (i := 3) (by unfold vp_in; decide) dX5_work_7 ?_
    rw [show (3 : Int32).toNatClampNeg = 3 from by decide]
    refine lv_icmp_lt (tgt := 61) hx hb dX5_work_8 (by decide) (fun c_8 => ?_) (fun c_8 => ?_)
    · rw [show mp_climb f (k + 1) w ρ = (w, ρ) from if_pos c_8] at hw_
      refine lv_aload_n hx hb dX5_work_61 rfl (lv_at hl 2 rfl) ?_
      refine lv_iconst (v := 2) hx hb dX5_work_62 (by decide) ?_
      refine mh_iald hx hb hKK.1 hW 14 f (by decide) (mh_ixR (k := 4) (by decide) (by decide) (by show f < mh_n 4; unfold mh_n; simp; omega)) (i := 2) (by unfold vp_in; decide) dX5_work_63 ?_
      rw [show (2 : Int32).toNatClampNeg = 2 from by decide]
      refine lv_bipush (v := 6) hx hb dX5_work_64 (by decide) ?_
      refine lv_icmp_ge (tgt := 78) hx hb dX5_work_66 (by decide) (fun c_66 => ?_) (fun c_66 => ?_)
      · refine lv_aload_n hx hb dX5_work_78 rfl (lv_at hl 2 rfl) ?_
        refine lv_iconst (v := 4) hx hb dX5_work_79 (by decide) ?_
        refine lv_iconst (v := 0) hx hb dX5_work_80 (by decide) ?_
        refine mh_iast hx hb hKK.1 hW hS 14 f (by decide) (mh_ixR (k := 4) (by decide) (by decide) (by show f < mh_n 4; unfold mh_n; simp; omega)) (i := 4) (x := 0) (by unfold vp_in; decide) dX5_work_81 (fun H locs hW hS hz hq => ?_)
        rw [show (4 : Int32).toNatClampNeg = 4 from by decide] at hW
        have hW : mh_W D d.1 cB L (hs_sg ρ 14 f 4 (0 : Int32)) A H := hW
        refine lv_iconst (v := 1) hx hb dX5_work_82 (by decide) ?_
        refine W.widen (k := mp_wadv ρ0 f) (n := 7 * mp_wadv ρ0 f) (by omega) (by omega) ?_
        exact W.iret (v := 1) hx hb hr (fun t ht hW9 => ⟨⟨1, hs_sg ρ 14 f 4 (0 : Int32), rfl, by rw [hw_]; unfold mp_fin; rw [if_pos c_66], by show mh_W D d.1 cB L _ A t.heap; rw [ht]; exact hW⟩, hS.F ht⟩) hS.2.2 dX5_work_83
      · refine lv_aload_n hx hb dX5_work_69 rfl (lv_at hl 2 rfl) ?_
        refine lv_iconst (v := 3) hx hb dX5_work_70 (by decide) ?_
        refine lv_dup2_11 hx hb dX5_work_71 rfl rfl ?_
        refine mh_iald hx hb hKK.1 hW 14 f (by decide) (mh_ixR (k := 4) (by decide) (by decide) (by show f < mh_n 4; unfold mh_n; simp; omega)) (i := 3) (by unfold vp_in; decide) dX5_work_72 ?_
        rw [show (3 : Int32).toNatClampNeg = 3 from by decide]
        refine lv_iload_n hx hb dX5_work_73 rfl (lv_at hl 0 rfl) ?_
        refine lv_isub hx hb dX5_work_74 ?_
        refine mh_iast hx hb hKK.1 hW hS 14 f (by decide) (mh_ixR (k := 4) (by decide) (by decide) (by show f < mh_n 4; unfold mh_n; simp; omega)) (i := 3) (x := (ρ 14 f 3) - w) (by unfold vp_in; decide) dX5_work_75 (fun H locs hW hS hz hq => ?_)
        rw [show (3 : Int32).toNatClampNeg = 3 from by decide] at hW
        have hW : mh_W D d.1 cB L (hs_sg ρ 14 f 3 ((ρ 14 f 3) - w)) A H := hW
        refine lv_iconst (v := 0) hx hb dX5_work_76 (by decide) ?_
        refine W.widen (k := mp_wadv ρ0 f) (n := 7 * mp_wadv ρ0 f) (by omega) (by omega) ?_
        exact W.iret (v := 0) hx hb hr (fun t ht hW9 => ⟨⟨0, hs_sg ρ 14 f 3 ((ρ 14 f 3) - w), rfl, by rw [hw_]; unfold mp_fin; rw [if_neg c_66], by show mh_W D d.1 cB L _ A t.heap; rw [ht]; exact hW⟩, hS.F ht⟩) hS.2.2 dX5_work_77
    · refine lv_aload_n hx hb dX5_work_11 rfl (lv_at hl 2 rfl) ?_
      refine lv_iconst (v := 2) hx hb dX5_work_12 (by decide) ?_
      refine mh_iald hx hb hKK.1 hW 14 f (by decide) (mh_ixR (k := 4) (by decide) (by decide) (by show f < mh_n 4; unfold mh_n; simp; omega)) (i := 2) (by unfold vp_in; decide) dX5_work_13 ?_
      rw [show (2 : Int32).toNatClampNeg = 2 from by decide]
      refine lv_bipush (v := 6) hx hb dX5_work_14 (by decide) ?_
      refine lv_icmp_ge (tgt := 61) hx hb dX5_work_16 (by decide) (fun c_16 => ?_) (fun c_16 => ?_)
      · rw [show mp_climb f (k + 1) w ρ = (w, ρ) from (if_neg c_8).trans (if_pos c_16)] at hw_
        refine lv_aload_n hx hb dX5_work_61 rfl (lv_at hl 2 rfl) ?_
        refine lv_iconst (v := 2) hx hb dX5_work_62 (by decide) ?_
        refine mh_iald hx hb hKK.1 hW 14 f (by decide) (mh_ixR (k := 4) (by decide) (by decide) (by show f < mh_n 4; unfold mh_n; simp; omega)) (i := 2) (by unfold vp_in; decide) dX5_work_63 ?_
        rw [show (2 : Int32).toNatClampNeg = 2 from by decide]
        refine lv_bipush (v := 6) hx hb dX5_work_64 (by decide) ?_
        refine lv_icmp_ge (tgt := 78) hx hb dX5_work_66 (by decide) (fun c_66 => ?_) (fun c_66 => ?_)
        · refine lv_aload_n hx hb dX5_work_78 rfl (lv_at hl 2 rfl) ?_
          refine lv_iconst (v := 4) hx hb dX5_work_79 (by decide) ?_
          refine lv_iconst (v := 0) hx hb dX5_work_80 (by decide) ?_
          refine mh_iast hx hb hKK.1 hW hS 14 f (by decide) (mh_ixR (k := 4) (by decide) (by decide) (by show f < mh_n 4; unfold mh_n; simp; omega)) (i := 4) (x := 0) (by unfold vp_in; decide) dX5_work_81 (fun H locs hW hS hz hq => ?_)
          rw [show (4 : Int32).toNatClampNeg = 4 from by decide] at hW
          have hW : mh_W D d.1 cB L (hs_sg ρ 14 f 4 (0 : Int32)) A H := hW
          refine lv_iconst (v := 1) hx hb dX5_work_82 (by decide) ?_
          refine W.widen (k := mp_wadv ρ0 f) (n := 7 * mp_wadv ρ0 f) (by omega) (by omega) ?_
          exact W.iret (v := 1) hx hb hr (fun t ht hW9 => ⟨⟨1, hs_sg ρ 14 f 4 (0 : Int32), rfl, by rw [hw_]; unfold mp_fin; rw [if_pos c_66], by show mh_W D d.1 cB L _ A t.heap; rw [ht]; exact hW⟩, hS.F ht⟩) hS.2.2 dX5_work_83
        · refine lv_aload_n hx hb dX5_work_69 rfl (lv_at hl 2 rfl) ?_
          refine lv_iconst (v := 3) hx hb dX5_work_70 (by decide) ?_
          refine lv_dup2_11 hx hb dX5_work_71 rfl rfl ?_
          refine mh_iald hx hb hKK.1 hW 14 f (by decide) (mh_ixR (k := 4) (by decide) (by decide) (by show f < mh_n 4; unfold mh_n; simp; omega)) (i := 3) (by unfold vp_in; decide) dX5_work_72 ?_
          rw [show (3 : Int32).toNatClampNeg = 3 from by decide]
          refine lv_iload_n hx hb dX5_work_73 rfl (lv_at hl 0 rfl) ?_
          refine lv_isub hx hb dX5_work_74 ?_
          refine mh_iast hx hb hKK.1 hW hS 14 f (by decide) (mh_ixR (k := 4) (by decide) (by decide) (by show f < mh_n 4; unfold mh_n; simp; omega)) (i := 3) (x := (ρ 14 f 3) - w) (by unfold vp_in; decide) dX5_work_75 (fun H locs hW hS hz hq => ?_)
          rw [show (3 : Int32).toNatClampNeg = 3 from by decide] at hW
          have hW : mh_W D d.1 cB L (hs_sg ρ 14 f 3 ((ρ 14 f 3) - w)) A H := hW
          refine lv_iconst (v := 0) hx hb dX5_work_76 (by decide) ?_
          refine W.widen (k := mp_wadv ρ0 f) (n := 7 * mp_wadv ρ0 f) (by omega) (by omega) ?_
          exact W.iret (v := 0) hx hb hr (fun t ht hW9 => ⟨⟨0, hs_sg ρ 14 f 3 ((ρ 14 f 3) - w), rfl, by rw [hw_]; unfold mp_fin; rw [if_neg c_66], by show mh_W D d.1 cB L _ A t.heap; rw [ht]; exact hW⟩, hS.F ht⟩) hS.2.2 dX5_work_77
      · refine lv_iload_n hx hb dX5_work_19 rfl (lv_at hl 0 rfl) ?_
        refine lv_aload_n hx hb dX5_work_20 rfl (lv_at hl 2 rfl) ?_
        refine lv_iconst (v := 3) hx hb dX5_work_21 (by decide) ?_
        refine mh_iald hx hb hKK.1 hW 14 f (by decide) (mh_ixR (k := 4) (by decide) (by decide) (by show f < mh_n 4; unfold mh_n; simp; omega)) (i := 3) (by unfold vp_in; decide) dX5_work_22 ?_
        rw [show (3 : Int32).toNatClampNeg = 3 from by decide]
        refine lv_isub hx hb dX5_work_23 ?_
        refine lv_istore_n (lv' := [(2, .int (w - (ρ 14 f 3))), (0, .ref (L 0 0)), (1, .ref (L 14 f))]) hx hb dX5_work_24 rfl hl (by decide) rfl (fun ls hl => ?_)
        refine lv_aload_n hx hb dX5_work_25 rfl (lv_at hl 2 rfl) ?_
        refine lv_iconst (v := 2) hx hb dX5_work_26 (by decide) ?_
        refine lv_dup2_11 hx hb dX5_work_27 rfl rfl ?_
        refine mh_iald hx hb hKK.1 hW 14 f (by decide) (mh_ixR (k := 4) (by decide) (by decide) (by show f < mh_n 4; unfold mh_n; simp; omega)) (i := 2) (by unfold vp_in; decide) dX5_work_28 ?_
        rw [show (2 : Int32).toNatClampNeg = 2 from by decide]
        refine lv_iconst (v := 1) hx hb dX5_work_29 (by decide) ?_
        refine lv_iadd hx hb dX5_work_30 ?_
        rw [show (ρ 14 f 2) + 1 = nI (6 - (k + 1) + 1) from hst2]
        refine mh_iast hx hb hKK.1 hW hS 14 f (by decide) (mh_ixR (k := 4) (by decide) (by decide) (by show f < mh_n 4; unfold mh_n; simp; omega)) (i := 2) (x := nI (6 - (k + 1) + 1)) (by unfold vp_in; decide) dX5_work_31 (fun H locs hW hS hz hq => ?_)
        rw [show (2 : Int32).toNatClampNeg = 2 from by decide] at hW
        have hW : mh_W D d.1 cB L (hs_sg ρ 14 f 2 (nI (6 - (k + 1) + 1))) A H := hW
        refine lv_aload_n hx hb dX5_work_32 rfl (lv_at hl 2 rfl) ?_
        refine lv_iconst (v := 3) hx hb dX5_work_33 (by decide) ?_
        refine lv_aload_n hx hb dX5_work_34 rfl (lv_at hl 2 rfl) ?_
        refine lv_iconst (v := 2) hx hb dX5_work_35 (by decide) ?_
        refine mh_iald hx hb hKK.1 hW 14 f (by decide) (mh_ixR (k := 4) (by decide) (by decide) (by show f < mh_n 4; unfold mh_n; simp; omega)) (i := 2) (by unfold vp_in; decide) dX5_work_36 ?_
        rw [show (2 : Int32).toNatClampNeg = 2 from by decide]
        rw [show (hs_sg ρ 14 f 2 (nI (6 - (k + 1) + 1))) 14 f 2 = nI (6 - (k + 1) + 1) from by rw [pc9, if_pos ⟨rfl, rfl, rfl⟩]]
        have hadv : mp_adv f (k + 1) w ρ = 1 + mp_adv f k (w - ρ 14 f 3) (mp_step ρ f) := (if_neg c_8).trans (if_neg c_16)
        refine mh_needs (j := 6 - (k + 1) + 1) ⟨hx, hb, hml, hown, hts⟩ (kX6_needs l D d H.size (6 - (k + 1) + 1) (by omega)) ⟨va_cnB 1 hts gX5_work_X6_needs_n107 rfl rfl rfl hKK.2.2.2.2.1 (hts (.initialized RX6) (by decide +kernel)) (by decide +kernel) ⟨Nat.le_of_ble_eq_true rfl, Nat.le_of_ble_eq_true rfl⟩, hts (.static yX6_needs) (by decide +kernel), trivial⟩ hKK.1 hAz hW hS rfl hl.1 (Nat.le_of_ble_eq_true rfl) dX5_work_37 ⟨by show c + 1 ≤ mp_wadv ρ0 f; omega, by show 7 * c + 7 ≤ 7 * mp_wadv ρ0 f; omega⟩ rfl (fun H locs hW hz hS => ?_)
        refine mh_iast hx hb hKK.1 hW hS 14 f (by decide) (mh_ixR (k := 4) (by decide) (by decide) (by show f < mh_n 4; unfold mh_n; simp; omega)) (i := 3) (x := mp_needs (6 - (k + 1) + 1)) (by unfold vp_in; decide) dX5_work_40 (fun H locs hW hS hz hq => ?_)
        rw [show (3 : Int32).toNatClampNeg = 3 from by decide] at hW
        have hW : mh_W D d.1 cB L (hs_sg (hs_sg ρ 14 f 2 (nI (6 - (k + 1) + 1))) 14 f 3 (mp_needs (6 - (k + 1) + 1))) A H := hW
        refine lv_aload_n hx hb dX5_work_41 rfl (lv_at hl 2 rfl) ?_
        refine lv_iconst (v := 2) hx hb dX5_work_42 (by decide) ?_
        refine mh_iald hx hb hKK.1 hW 14 f (by decide) (mh_ixR (k := 4) (by decide) (by decide) (by show f < mh_n 4; unfold mh_n; simp; omega)) (i := 2) (by unfold vp_in; decide) dX5_work_43 ?_
        rw [show (2 : Int32).toNatClampNeg = 2 from by decide]
        rw [show (hs_sg (hs_sg ρ 14 f 2 (nI (6 - (k + 1) + 1))) 14 f 3 (mp_needs (6 - (k + 1) + 1))) 14 f 2 = nI (6 - (k + 1) + 1) from by rw [pc9, if_neg (by omega), pc9, if_pos ⟨rfl, rfl, rfl⟩]]
        refine lv_iconst (v := 1) hx hb dX5_work_44 (by decide) ?_
        refine lv_icmp_ne (tgt := 4) hx hb dX5_work_45 (by decide) (fun c_45 => ?_) (fun c_45 => ?_)
        · have hes := (show mp_step ρ f = (hs_sg (hs_sg ρ 14 f 2 (nI (6 - (k + 1) + 1))) 14 f 3 (mp_needs (6 - (k + 1) + 1))) from by unfold mp_step; rw [if_neg (by rw [hst2]; exact c_45), hput])
          rw [show mp_climb f (k + 1) w ρ = mp_climb f k (w - ρ 14 f 3) (mp_step ρ f) from (if_neg c_8).trans (if_neg c_16), hes] at hw_
          rw [hadv, hes] at hc_
          exact ih _ _ (c + 1) (by omega) (by rw [pc9, if_neg (by omega), pc9, if_pos ⟨rfl, rfl, rfl⟩, show 6 - (k + 1) + 1 = 6 - k by omega]) (by rw [pc9, if_neg (by omega), pc9, if_neg (by omega)]; exact h0e_) hw_ (by omega) _ _ hW hS ls (lv_sub hl [0, 1, 2] rfl)
        · refine lv_aload_n hx hb dX5_work_48 rfl (lv_at hl 2 rfl) ?_
          refine lv_iconst (v := 5) hx hb dX5_work_49 (by decide) ?_
          refine lv_aload_n hx hb dX5_work_50 rfl (lv_at hl 1 rfl) ?_
          refine lv_aload_n hx hb dX5_work_51 rfl (lv_at hl 2 rfl) ?_
          refine lv_iconst (v := 0) hx hb dX5_work_52 (by decide) ?_
          refine mh_iald hx hb hKK.1 hW 14 f (by decide) (mh_ixR (k := 4) (by decide) (by decide) (by show f < mh_n 4; unfold mh_n; simp; omega)) (i := 0) (by unfold vp_in; decide) dX5_work_53 ?_
          rw [show (0 : Int32).toNatClampNeg = 0 from by decide]
          rw [show (hs_sg (hs_sg ρ 14 f 2 (nI (6 - (k + 1) + 1))) 14 f 3 (mp_needs (6 - (k + 1) + 1))) 14 f 0 = nI h0 from by rw [pc9, if_neg (by omega), pc9, if_neg (by omega)]; exact h0e_]
          refine mh_calli (As := [.int (nI h0)]) ⟨hx, hb, hml, hown, hts⟩ (kX5_doubt l D d cB L (hs_sg (hs_sg ρ 14 f 2 (nI (6 - (k + 1) + 1))) 14 f 3 (mp_needs (6 - (k + 1) + 1))) A H.size h0 h0l) (cwV 1 hts gX5_work_X5_doubt rfl rfl rfl (by decide +kernel) ⟨Nat.le_of_ble_eq_true rfl, Nat.le_of_ble_eq_true rfl⟩) hKK hW hS rfl hl.1 (Nat.le_of_ble_eq_true rfl) dX5_work_54 ⟨by show c + 1 + 0 ≤ mp_wadv ρ0 f; omega, by show 7 * c + 7 + 0 ≤ 7 * mp_wadv ρ0 f; omega⟩ rfl (fun r_ τ_ H locs hp hW hz hqq hS => ?_)
          obtain ⟨e1_, e2_⟩ := hp
          subst e1_ e2_
          refine mh_iast hx hb hKK.1 hW hS 14 f (by decide) (mh_ixR (k := 4) (by decide) (by decide) (by show f < mh_n 4; unfold mh_n; simp; omega)) (i := 5) (x := mp_doubt (hs_sg (hs_sg ρ 14 f 2 (nI (6 - (k + 1) + 1))) 14 f 3 (mp_needs (6 - (k + 1) + 1))) h0) (by unfold vp_in; decide) dX5_work_57 (fun H locs hW hS hz hq => ?_)
          rw [show (5 : Int32).toNatClampNeg = 5 from by decide] at hW
          have hW : mh_W D d.1 cB L (hs_sg (hs_sg (hs_sg ρ 14 f 2 (nI (6 - (k + 1) + 1))) 14 f 3 (mp_needs (6 - (k + 1) + 1))) 14 f 5 (mp_doubt (hs_sg (hs_sg ρ 14 f 2 (nI (6 - (k + 1) + 1))) 14 f 3 (mp_needs (6 - (k + 1) + 1))) h0)) A H := hW
          refine lv_goto (tgt := 4) hx hb dX5_work_58 (by decide) ?_
          have hes := (show mp_step ρ f = (hs_sg (hs_sg (hs_sg ρ 14 f 2 (nI (6 - (k + 1) + 1))) 14 f 3 (mp_needs (6 - (k + 1) + 1))) 14 f 5 (mp_doubt (hs_sg (hs_sg ρ 14 f 2 (nI (6 - (k + 1) + 1))) 14 f 3 (mp_needs (6 - (k + 1) + 1))) h0)) from by unfold mp_step; rw [if_pos (by rw [hst2]; exact c_45), hput, h0e_, nI_clamp (by omega), mp_doubt_sg, mp_doubt_sg])
          rw [show mp_climb f (k + 1) w ρ = mp_climb f k (w - ρ 14 f 3) (mp_step ρ f) from (if_neg c_8).trans (if_neg c_16), hes] at hw_
          rw [hadv, hes] at hc_
          exact ih _ _ (c + 1) (by omega) (by rw [pc9, if_neg (by omega), pc9, if_neg (by omega), pc9, if_pos ⟨rfl, rfl, rfl⟩, show 6 - (k + 1) + 1 = 6 - k by omega]) (by rw [pc9, if_neg (by omega), pc9, if_neg (by omega), pc9, if_neg (by omega)]; exact h0e_) hw_ (by omega) _ _ hW hS ls (lv_sub hl [0, 1, 2] rfl)
set_option maxHeartbeats 4000000 in
set_option maxRecDepth 100000 in
/-- the reference: work -/
theorem kX5_work (l : Launch) (D : va_G) (d : hs_Dm) (cB : ClassId) (L : hs_Lo) (A : Nat → Prop) (ρ0 : hs_St) (f : Nat) (hf : f < 8) (h0 : Nat) (h0l : h0 < 10) (h0e : ρ0 14 f 0 = nI h0) (sz : Nat) (hA : mh_A A sz) (hj : ∃ j, j ≤ 6 ∧ ρ0 14 f 2 = nI j) : mh_Mi l yX5_work wsX5_work ({ frames := 1, cells := mp_wadv ρ0 f, slots := 7 * mp_wadv ρ0 f, locals := 40 } : Room) D d cB L ρ0 A sz [.ref (L 0 0), .ref (L 14 f)] (fun r τ => mp_work ρ0 f = (r, τ)) (mp_wadv ρ0 f) (7 * mp_wadv ρ0 f) := by
  refine Met.ofW (cc := cX5_work) (maxL := 3) (ret := (some .int)) (by decide) rfl ?_
  intro p e s m args below meth c0 s₁ B hml hv
  obtain ⟨rfl, hsz, hW, hKK⟩ := hv
  have hx := B.exec
  have hb := B.bytes
  have hr := B.returns
  have hts := atoms_spec (ws := wsX5_work) B.pre
  have hown : s.vm.findClass RX5 = some m.cls := findClass_of_methodNamed B.named
  have hlocks := B.notSynchronized
  have hAz : ∀ q, s.heap.size ≤ q → A q := by rw [hsz]; exact hA
  have hS : va_S A s.heap s.heap [] := va_S.rf
  have hl := lv_entry ([.ref (L 0 0), .ref (L 14 f)]) (n := 3) (Nat.le_of_ble_eq_true rfl)
  rw [lg_entry_eq]
  generalize (lg_sl ([.ref (L 0 0), .ref (L 14 f)]) ++ List.replicate (3 - (lg_sl ([.ref (L 0 0), .ref (L 14 f)])).length) Slot.unset).toArray = ls at hl ⊢
  have hl : lv_has ls 3 [(0, .ref (L 0 0)), (1, .ref (L 14 f))] := hl
  obtain ⟨j, hj6, hje⟩ := hj
  have hcl : (ρ0 14 f 2).toNatClampNeg = j := by rw [hje]; exact nI_clamp (by omega)
  have h6 : mp_wadv ρ0 f ≤ 6 := Nat.le_trans (mp_adv_le _ _ _ _) (Nat.sub_le _ _)
  refine lv_aload_n hx hb dX5_work_0 rfl (lv_at hl 1 rfl) ?_
  refine lv_iconst (v := 4) hx hb dX5_work_1 (by decide) ?_
  refine mh_iald hx hb hKK.1 hW 14 f (by decide) (mh_ixR (k := 4) (by decide) (by decide) (by show f < mh_n 4; unfold mh_n; simp; omega)) (i := 4) (by unfold vp_in; decide) dX5_work_2 ?_
  rw [show (4 : Int32).toNatClampNeg = 4 from by decide]
  refine lv_istore_n (lv' := [(2, .int (ρ0 14 f 4)), (0, .ref (L 0 0)), (1, .ref (L 14 f))]) hx hb dX5_work_3 rfl hl (by decide) rfl (fun ls hl => ?_)
  exact lkX5_work l D d cB L A ρ0 f hf h0 h0l h0e h6 hx hb hr hts hown hlocks hml hKK hAz (6 - j) _ ρ0 0 (by omega) (by rw [hje]; congr 1; omega) h0e (by unfold mp_work; rw [hcl]) (by unfold mp_wadv; rw [hcl]; exact Nat.zero_add _) _ _ hW hS ls (lv_sub hl [0, 1, 2] rfl)
