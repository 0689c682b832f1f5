/-! THE LAW: what stands, its calls -/
theorem rg_newl {p : Program} {l : Launch} {e : Env} {R : Room} {s : State} {m : MethodId} {args : Array Value} {below : List Frame} {meth : Method} {c : Code} {H : Heap} {locs : List Loc} {cells slots : Nat} {Q : State → Prop} {cc : ByteArray} {pc : Nat} {ls : Array Slot} {rest : List Value} {D : va_G} {Cn : Nat → va_E} {b mm : Nat} {cL : ClassId} (hexec : p.tables.exec = Jvm.exec) (hb : c.code = cc) (harr : (Cond.arrayClass .long).before args s = true) (hK : va_K D vwCl [(cL, .long)] s) (hg : rg D Cn b mm H) (hz : H.size = b + mm) (hS : va_S (rg_A b) s.heap H locs)
    (hcells : cells + 1 ≤ R.cells) (hslots : slots + 1 ≤ R.slots) (hdg : decode cc pc = .ok (.newarray .long, 2))
    (kk : ∀ (H1 : Heap), rg D (va_up Cn mm (.inl (cL, 1, .inr (.inl (fun _ => 0))))) b (mm + 1) H1 → H1.size = b + (mm + 1) → va_S (rg_A b) s.heap H1 locs → W p l e R s m args below meth c H1 locs (cells + 1) (slots + 1) Q (F0 m (pc + 2) ls (.ref (b + mm) :: rest))) : W p l e R s m args below meth c H locs cells slots Q (F0 m pc ls (.int 1 :: rest)) := by
  refine va_newaK hexec hb (atype := .long) harr (g := F0 m pc ls (.int 1 :: rest)) rfl hdg rfl (n := 1) (N := 1) (by decide) rfl (by decide) hcells hslots hz fun H1 cA e1 z1 o1 hA hf => ?_
  have hcA : cA = cL := Option.some.inj (hf.symm.trans (hK.2 0 _ rfl).2)
  subst hcA
  have oq : ∀ q : Nat, q < H.size → H1[q]? = H[q]? := fun q hq => o1 q (by omega)
  exact kk H1 (hg.push hz (by show H1[b + mm]? = some (vp_cell _ _); rw [vp_cell_l]; exact e1) oq) (by omega) (rg_S hS (by omega) oq)
theorem lg_cmp_self (x : Int64) : lg_cmp x x = 0 := by simp [lg_cmp, Int64.lt_irrefl]
def lw_X (d : hs_Dm) (cB cL : ClassId) (h0 : Nat) : Nat → va_E := fun j => if j < 135 then rc_X d h0 j else if j < 181 then rf_X d cB (h0 + 135) (j - 135) else .inl (cL, 1, .inr (.inl (fun _ => 0)))
abbrev lw_A1 (h0 : Nat) : Nat → Prop := fun q => h0 + 1 ≤ q ∧ q < h0 + 68
abbrev lw_A2 (h0 : Nat) : Nat → Prop := fun q => h0 + 68 ≤ q ∧ q < h0 + 135
abbrev lw_B (h0 : Nat) : Nat → Prop := fun q => (h0 + 1 ≤ q ∧ q < h0 + 135) ∨ q = h0 + 181
abbrev lw_M (h0 sz : Nat) : Nat → Prop := fun q => (h0 + 135 ≤ q ∧ q < h0 + 181) ∨ sz ≤ q
set_option maxRecDepth 20000 in
theorem lw_house {D : va_G} {d : hs_Dm} {cB cL : ClassId} {h0 : Nat} {H : Heap} (hg : rg D (lw_X d cB cL h0) h0 182 H) : hs_W D d (rc_L (h0 + 1)) rc_s (lw_A1 h0) H := rc_W (fun j hj => by
  have h := hg (j + 1) (by omega)
  rw [show h0 + (j + 1) = h0 + 1 + j by omega, show lw_X d cB cL h0 (j + 1) = rc_N d (h0 + 1) j from by unfold lw_X rc_X; rw [if_pos (by omega), if_neg (by omega), if_pos (by omega), Nat.add_sub_cancel]] at h
  exact h) (fun j hj => ⟨by omega, by omega⟩)
theorem lw_trial {D : va_G} {d : hs_Dm} {cB cL : ClassId} {h0 : Nat} {H : Heap} (hg : rg D (lw_X d cB cL h0) h0 182 H) : hs_W D d (rc_L (h0 + 68)) rc_s (lw_A2 h0) H := rc_W (fun j hj => by
  have h := hg (j + 68) (by omega)
  rw [show h0 + (j + 68) = h0 + 68 + j by omega, show lw_X d cB cL h0 (j + 68) = rc_N d (h0 + 68) j from by unfold lw_X rc_X; rw [if_pos (by omega), if_neg (by omega), if_neg (by omega), Nat.add_sub_cancel]] at h
  exact h) (fun j hj => ⟨by omega, by omega⟩)
theorem lw_wax {D : va_G} {d : hs_Dm} {cB cL : ClassId} {h0 : Nat} {H : Heap} (hg : rg D (lw_X d cB cL h0) h0 182 H) : va_at D vwCl (h0, .inr (cWx, [.ref (rc_L (h0 + 1) 0 0), .ref (rc_L (h0 + 68) 0 0)])) H := hg 0 (by decide)
theorem lw_out {D : va_G} {d : hs_Dm} {cB cL : ClassId} {h0 : Nat} {H : Heap} (hg : rg D (lw_X d cB cL h0) h0 182 H) : va_P D vwCl [(h0 + 181, .inl (cL, 1, .inr (.inl (fun _ => 0))))] H := va_P1 (hg 181 (by decide))
abbrev lw_R (h0 : Nat) : Nat → Prop := fun q => h0 + 135 ≤ q ∧ q < h0 + 181
abbrev lw_B1 (h0 : Nat) : Nat → Prop := fun q => (h0 + 1 ≤ q ∧ q < h0 + 68) ∨ q = h0 + 181
theorem lw_born {D : va_G} {d : hs_Dm} {cB cL : ClassId} {h0 : Nat} {H : Heap} (hg : rg D (lw_X d cB cL h0) h0 182 H) : mm_W D d cB (mL (h0 + 136)) (h0 + 135) 0 mp_born (lw_R h0) H := by
  have h := mh_born (D := D) (d := d) (cB := cB) (b := h0 + 136) (A := fun q => h0 + 136 ≤ q) (H := H) (fun j hj => by
    have h := hg (136 + j) (by omega)
    rw [show h0 + (136 + j) = h0 + 136 + j by omega, show lw_X d cB cL h0 (136 + j) = rf_H d cB (h0 + 136) j from by
      unfold lw_X rf_X
      rw [if_neg (by omega), if_pos (by omega), rc_upn _ _ _ _ (by omega), if_neg (by omega), show 136 + j - 135 - 1 = j by omega]] at h
    exact h) (fun q z => z)
  refine ⟨hg 135 (by decide), ⟨h.1, fun k i hx => ⟨?_, ?_⟩, h.2.2⟩, ⟨Nat.le_refl _, by omega⟩, fun k i hx z => ?_⟩
  · show h0 + 135 ≤ h0 + 136 + mo k i
    omega
  · have := mo_lt hx
    show h0 + 136 + mo k i < h0 + 181
    omega
  · have z : h0 + 136 + mo k i = h0 + 135 := z
    omega
theorem mm_W.kept {D : va_G} {d : hs_Dm} {cB : ClassId} {L : hs_Lo} {m0 : Nat} {th : Int32} {ρ : hs_St} {A : Nat → Prop} {H H1 : Heap} (h : mm_W D d cB L m0 th ρ A H) (hq : ∀ q : Nat, q < H.size → A q → H1[q]? = H[q]?) : mm_W D d cB L m0 th ρ A H1 := ⟨h.1.kept (hq m0 h.1.lt h.2.2.1), h.2.1.kept (fun q hl z => hq q hl (by
  obtain ⟨k, i, hx, e⟩ := z
  rw [e]
  exact h.2.1.2.1 k i hx)), h.2.2⟩
theorem mm_W.re {D : va_G} {d : hs_Dm} {cB : ClassId} {L : hs_Lo} {m0 : Nat} {th : Int32} {ρ : hs_St} {A A1 : Nat → Prop} {H : Heap} (h : mm_W D d cB L m0 th ρ A H) (h1 : ∀ k i, mh_ix k i → A1 (L k i)) (h2 : A1 m0) : mm_W D d cB L m0 th ρ A1 H := ⟨h.1, ⟨h.2.1.1, h1, h.2.1.2.2⟩, h2, h.2.2.2⟩
def lw_J (D : va_G) (d : hs_Dm) (cB cL : ClassId) (h0 : Nat) (σ σ2 : hs_St) (th : Int32) (ρ : hs_St) (g : Nat → Int64) (H : Heap) : Prop := hs_W D d (rc_L (h0 + 1)) σ (lw_A1 h0) H ∧ hs_W D d (rc_L (h0 + 68)) σ2 (lw_A2 h0) H ∧ va_at D vwCl (h0, .inr (cWx, [.ref (rc_L (h0 + 1) 0 0), .ref (rc_L (h0 + 68) 0 0)])) H ∧ mm_W D d cB (mL (h0 + 136)) (h0 + 135) th ρ (lw_R h0) H ∧ va_P D vwCl [(h0 + 181, .inl (cL, 1, .inr (.inl g)))] H ∧ h0 + 182 ≤ H.size
/-- after n calls -/
def lw_I (D : va_G) (d : hs_Dm) (cB cL : ClassId) (h0 n : Nat) (H : Heap) : Prop := ∃ (P F R : Nat) (σ σ2 ρ : hs_St) (th : Int32) (g : Nat → Int64), mr P F R n σ ρ ∧ tr_ok R σ2 ∧ lw_J D d cB cL h0 σ σ2 th ρ g H
theorem lw_oB {h0 q : Nat} (h : ¬ lw_B1 h0 q) : ¬ lw_A1 h0 q := fun z => h (Or.inl z)
theorem lw_B1B {h0 : Nat} : ∀ q, lw_B1 h0 q → rg_A h0 q := fun q z => by
  have z : (h0 + 1 ≤ q ∧ q < h0 + 68) ∨ q = h0 + 181 := z
  show h0 ≤ q
  omega
theorem lw_BB {h0 : Nat} : ∀ q, lw_B h0 q → rg_A h0 q := fun q z => by
  have z : (h0 + 1 ≤ q ∧ q < h0 + 135) ∨ q = h0 + 181 := z
  show h0 ≤ q
  omega
theorem lw_MB {h0 sz : Nat} (h : h0 + 182 ≤ sz) : ∀ q, lw_M h0 sz q → rg_A h0 q := fun q z => by
  have z : (h0 + 135 ≤ q ∧ q < h0 + 181) ∨ sz ≤ q := z
  show h0 ≤ q
  omega
theorem lw_dis {h0 : Nat} : ∀ q, lw_A2 h0 q → ¬ lw_A1 h0 q := fun q h z => by
  have h : h0 + 68 ≤ q ∧ q < h0 + 135 := h
  have z : h0 + 1 ≤ q ∧ q < h0 + 68 := z
  omega
/-- what no call of the class changes -/
theorem lw_J.side {D : va_G} {d : hs_Dm} {cB cL : ClassId} {h0 : Nat} {σ σ2 σ' : hs_St} {th : Int32} {ρ : hs_St} {g g' : Nat → Int64} {H H1 : Heap} (hJ : lw_J D d cB cL h0 σ σ2 th ρ g H) (hq : ∀ q : Nat, q < H.size → ¬ lw_B1 h0 q → H1[q]? = H[q]?) (hz : H.size ≤ H1.size) (hW : hs_W D d (rc_L (h0 + 1)) σ' (lw_A1 h0) H1) (hO : va_P D vwCl [(h0 + 181, .inl (cL, 1, .inr (.inl g')))] H1) : lw_J D d cB cL h0 σ' σ2 th ρ g' H1 := by
  obtain ⟨-, w2, wV, wM, -, wz⟩ := hJ
  refine ⟨hW, w2.kept (fun q h1 h2 => hq q h1 (fun z => ?_)), wV.kept (hq h0 wV.lt (fun z => ?_)), wM.kept (fun q h1 h2 => hq q h1 (fun z => ?_)), hO, by omega⟩
  · have h2 : h0 + 68 ≤ q ∧ q < h0 + 135 := h2
    have z : (h0 + 1 ≤ q ∧ q < h0 + 68) ∨ q = h0 + 181 := z
    omega
  · have z : (h0 + 1 ≤ h0 ∧ h0 < h0 + 68) ∨ h0 = h0 + 181 := z
    omega
  · have h2 : h0 + 135 ≤ q ∧ q < h0 + 181 := h2
    have z : (h0 + 1 ≤ q ∧ q < h0 + 68) ∨ q = h0 + 181 := z
    omega
theorem lw_J.side2 {D : va_G} {d : hs_Dm} {cB cL : ClassId} {h0 : Nat} {σ σ2 σ' τ : hs_St} {th : Int32} {ρ : hs_St} {g g' : Nat → Int64} {H H1 : Heap} (hJ : lw_J D d cB cL h0 σ σ2 th ρ g H) (hq : ∀ q : Nat, q < H.size → ¬ lw_B h0 q → H1[q]? = H[q]?) (hz : H.size ≤ H1.size) (hW : hs_W D d (rc_L (h0 + 1)) σ' (lw_A1 h0) H1) (hW2 : hs_W D d (rc_L (h0 + 68)) τ (lw_A2 h0) H1) (hO : va_P D vwCl [(h0 + 181, .inl (cL, 1, .inr (.inl g')))] H1) : lw_J D d cB cL h0 σ' τ th ρ g' H1 := by
  obtain ⟨-, -, wV, wM, -, wz⟩ := hJ
  refine ⟨hW, hW2, wV.kept (hq h0 wV.lt (fun z => ?_)), wM.kept (fun q h1 h2 => hq q h1 (fun z => ?_)), hO, by omega⟩
  · have z : (h0 + 1 ≤ h0 ∧ h0 < h0 + 135) ∨ h0 = h0 + 181 := z
    omega
  · have h2 : h0 + 135 ≤ q ∧ q < h0 + 181 := h2
    have z : (h0 + 1 ≤ q ∧ q < h0 + 135) ∨ q = h0 + 181 := z
    omega
/-- what no call of the reference changes -/
theorem lw_J.model {D : va_G} {d : hs_Dm} {cB cL : ClassId} {h0 : Nat} {σ σ2 : hs_St} {th : Int32} {ρ : hs_St} {g : Nat → Int64} {H H1 : Heap} {X : mm_X} (hJ : lw_J D d cB cL h0 σ σ2 th ρ g H) (hq : ∀ q : Nat, q < H.size → ¬ lw_M h0 H.size q → H1[q]? = H[q]?) (hz : H.size ≤ H1.size) (hM : mm_W D d cB (mL (h0 + 136)) (h0 + 135) X.1 X.2 (lw_M h0 H.size) H1) : lw_J D d cB cL h0 σ σ2 X.1 X.2 g H1 := by
  obtain ⟨w1, w2, wV, wM, wO, wz⟩ := hJ
  refine ⟨w1.kept (fun q h1 h2 => hq q h1 (fun z => ?_)), w2.kept (fun q h1 h2 => hq q h1 (fun z => ?_)), wV.kept (hq h0 wV.lt (fun z => ?_)), hM.re (fun k i hx => wM.2.1.2.1 k i hx) wM.2.2.1, rf_keep1 wO (fun hl => hq _ hl (fun z => ?_)), by omega⟩
  · have h2 : h0 + 1 ≤ q ∧ q < h0 + 68 := h2
    have z : (h0 + 135 ≤ q ∧ q < h0 + 181) ∨ H.size ≤ q := z
    omega
  · have h2 : h0 + 68 ≤ q ∧ q < h0 + 135 := h2
    have z : (h0 + 135 ≤ q ∧ q < h0 + 181) ∨ H.size ≤ q := z
    omega
  · have z : (h0 + 135 ≤ h0 ∧ h0 < h0 + 181) ∨ H.size ≤ h0 := z
    omega
  · have z : (h0 + 135 ≤ h0 + 181 ∧ h0 + 181 < h0 + 181) ∨ H.size ≤ h0 + 181 := z
    omega
theorem mr.liv {P F R N : Nat} {σ ρ : hs_St} (h : mr P F R N σ ρ) : ∀ f, f < F → (σ 9 f 0).toNatClampNeg < P ∧ (σ 9 f 1).toNatClampNeg < P := fun f hf => by
  obtain ⟨⟨q1, -⟩, q2, -⟩ := (h.2.2.1.2.2.2.1 f hf).heads h.2.2.1.1.1
  exact ⟨q1, q2⟩
theorem mr.cb {P F R N : Nat} {σ ρ : hs_St} (h : mr P F R N σ ρ) : ∀ q, q < 10 → σ 4 q 5 = 0 ∨ σ 4 q 5 = 1 := fun q hq => by
  rcases Nat.lt_or_ge q P with z | z
  · exact (h.2.2.1.2.2.1 q z).2.2.1.2
  · exact Or.inl (h.2.2.2.1 q z hq).2.2.1.1
theorem tr_ok.up {R R' : Nat} {σ2 : hs_St} (h : tr_ok R σ2) (hR : R ≤ R') : tr_ok R' σ2 := by
  obtain ⟨P2, F2, R2, h1, h2⟩ := h
  exact ⟨P2, F2, R2, h1, Nat.le_trans h2 hR⟩
theorem sp_dig_ok {P F R : Nat} {σ σ2 : hs_St} (h : hs_ok P F R σ) (h2 : tr_ok R σ2) : tr_ok R (sp_dig σ σ2 P F R).2 := sp_gFs_ok h h2 _ F
/-- the start, side by side -/
theorem mr_born : mr 0 0 0 0 rc_s mp_born := by
  refine ⟨⟨rfl, rfl, rfl⟩, ⟨rfl, rfl, rfl⟩, ⟨⟨by decide, by decide, by decide⟩, ⟨rfl, rfl, ⟨rfl, by decide, by decide⟩, ⟨rfl, by decide, by decide⟩, rfl⟩, fun q hq => absurd hq (Nat.not_lt_zero _), fun q hq => absurd hq (Nat.not_lt_zero _), fun q hq => absurd hq (Nat.not_lt_zero _)⟩, fun q _ hq => ⟨fun j hj => ⟨rfl, rfl⟩, fun j hj => ⟨rfl, rfl⟩, ⟨rfl, rfl, rfl⟩, fun j hj => rfl, fun j hj => rfl⟩, fun f _ hf => ⟨⟨(by decide : (0 : Int32).toNatClampNeg < 10), (by decide : (0 : Int32).toNatClampNeg < 10)⟩, rfl, rfl, rfl, rfl, rfl, rfl, rfl, rfl, rfl⟩⟩
section LWK
variable {p : Program} {l : Launch} {e : Env} {R : Room} {s : State} {m : MethodId} {args : Array Value} {below : List Frame} {meth : Method} {c : Code} {H : Heap} {locs : List Loc} {cells slots : Nat} {Q : State → Prop}
variable {cc : ByteArray} {pc : Nat} {ls : Array Slot} {rest : List Value} {D : va_G} {d : hs_Dm} {cB cL : ClassId} {h0 : Nat} {σ σ2 ρ : hs_St} {th : Int32} {g : Nat → Int64}
variable {y : MethodName} {bytes : ByteArray} {maxL nL n index mc ms : Nat} {ret : Option FieldType} {hh : List (Nat × Nat × Nat × Nat)} {ws : List Cond} {rm : Room} {Ts : List Cond} {own : String} {As st : List Value} {cx : cl_X}
theorem lw_hlp (S : CallFix p m c cc nL s args Ts own) (hM : hl_M l y ws D d h0 (rc_L (h0 + 1)) (rc_L (h0 + 68)) σ (lw_A1 h0) (lw_B1 h0) (h0 + 181) cL g As cx) (cw : vx_CSW R s args own index y bytes maxL ret hh ws ({ frames := 10, cells := 1, slots := 6, locals := 260 }) 1 6 n) (hK : va_K D vwCl (hs_ty d) s) (hKL : va_K D vwCl [(cL, .long)] s) (hX : hx_E d.2.2.2.2 (rg_A h0) s) (hN : hl_N s) (hJ : lw_J D d cB cL h0 σ σ2 th ρ g H) (hS : va_S (rg_A h0) s.heap H locs) (hn : As.length = n) (hsize : ls.size = nL) (hrest : (rest.map fun v => v.category).sum ≤ 8) (hdg : decode cc pc = .ok (.invokestatic index, 3)) (hf : cells + 1 ≤ R.cells ∧ slots + 6 ≤ R.slots) (hst : st = As.reverse ++ rest)
    (kk : ∀ (r : Int32) (g' : Nat → Int64) (H1 : Heap) (locs1 : List Loc), r = cx.1 → (cx.1 = 0 → g' 0 = cx.2.1.toInt64) → lw_J D d cB cL h0 cx.2.2 σ2 th ρ g' H1 → va_S (rg_A h0) s.heap H1 locs1 → W p l e R s m args below meth c H1 locs1 (cells + 1) (slots + 6) Q (F0 m (pc + 3) ls (.int r :: rest))) : W p l e R s m args below meth c H locs cells slots Q (F0 m pc ls st) := by
  subst hst
  refine va_calli (vx_runSW S hM cw ⟨hl_blind, fun U hU hW9 => ⟨rfl, by rw [hU]; exact hJ.1, va_K.moved hW9.alike hK, (hX.on hW9 hU hS).narrow lw_B1B, by rw [hU]; exact hJ.2.2.1, by rw [hU]; exact hJ.2.2.2.2.1, va_K.moved hW9.alike hKL, hN.on hW9 (fun sa k => vk_R.warm hW9 k)⟩⟩ rfl hn hsize rfl (lv_room hrest) hdg hf) hS (fun q _ h => lw_B1B q h) (fun q h => lw_B1B q h) (fun r u t H1 locs1 ht _ hp hB hz hq hS1 => ?_)
  rw [ht] at hB
  exact kk r u H1 locs1 hp.1 hp.2 (hJ.side hq hz hB.1 hB.2) hS1
theorem lw_hlp2 {Rr : Nat} (S : CallFix p m c cc nL s args Ts own) (hM : hl_M2 l y ws D d h0 (rc_L (h0 + 1)) (rc_L (h0 + 68)) σ σ2 (lw_A1 h0) (lw_A2 h0) (lw_B h0) (h0 + 181) cL g Rr As cx) (cw : vx_CSW R s args own index y bytes maxL ret hh ws ({ frames := 10, cells := 1, slots := 6, locals := 260 }) 1 6 n) (hK : va_K D vwCl (hs_ty d) s) (hKL : va_K D vwCl [(cL, .long)] s) (hX : hx_E d.2.2.2.2 (rg_A h0) s) (hN : hl_N s) (hJ : lw_J D d cB cL h0 σ σ2 th ρ g H) (hS : va_S (rg_A h0) s.heap H locs) (hn : As.length = n) (hsize : ls.size = nL) (hrest : (rest.map fun v => v.category).sum ≤ 8) (hdg : decode cc pc = .ok (.invokestatic index, 3)) (hf : cells + 1 ≤ R.cells ∧ slots + 6 ≤ R.slots) (hst : st = As.reverse ++ rest)
    (kk : ∀ (r : Int32) (g' : Nat → Int64) (τ : hs_St) (H1 : Heap) (locs1 : List Loc), r = cx.1 → (cx.1 = 0 → g' 0 = cx.2.1.toInt64) → tr_ok Rr τ → lw_J D d cB cL h0 cx.2.2 τ th ρ g' H1 → va_S (rg_A h0) s.heap H1 locs1 → W p l e R s m args below meth c H1 locs1 (cells + 1) (slots + 6) Q (F0 m (pc + 3) ls (.int r :: rest))) : W p l e R s m args below meth c H locs cells slots Q (F0 m pc ls st) := by
  subst hst
  refine va_calli (vx_runSW S hM cw ⟨hl_blind2, fun U hU hW9 => ⟨rfl, ⟨by rw [hU]; exact hJ.1, va_K.moved hW9.alike hK, (hX.on hW9 hU hS).narrow lw_BB, by rw [hU]; exact hJ.2.2.1, by rw [hU]; exact hJ.2.2.2.2.1, va_K.moved hW9.alike hKL, hN.on hW9 (fun sa k => vk_R.warm hW9 k)⟩, by rw [hU]; exact hJ.2.1⟩⟩ rfl hn hsize rfl (lv_room hrest) hdg hf) hS (fun q _ h => lw_BB q h) (fun q h => lw_BB q h) (fun r u t H1 locs1 ht _ hp hB hz hq hS1 => ?_)
  rw [ht] at hB
  exact kk r u.1 u.2 H1 locs1 hp.1 hp.2.1 hp.2.2 (hJ.side2 hq hz hB.1 hB.2.2 hB.2.1) hS1
theorem lw_ref {post : Int32 → mm_X → Prop} (S : CallFix p m c cc nL s args Ts own) (hM : mm_Mi l y ws rm D d cB (mL (h0 + 136)) (h0 + 135) th ρ (lw_M h0 H.size) H.size (.ref (h0 + 135) :: As) post mc ms) (cw : CallW R s args own RX6 index y bytes maxL ret ws rm mc ms n) (hKK : mh_K D d cB s) (hJ : lw_J D d cB cL h0 σ σ2 th ρ g H) (hS : va_S (rg_A h0) s.heap H locs) (hn : As.length = n) (hsize : ls.size = nL) (hrest : (rest.map fun v => v.category).sum ≤ 8) (hdg : decode cc pc = .ok (.invokevirtual index, 3)) (hf : cells + mc ≤ R.cells ∧ slots + ms ≤ R.slots) (hst : st = As.reverse ++ .ref (h0 + 135) :: rest)
    (kk : ∀ (r : Int32) (X : mm_X) (H1 : Heap) (locs1 : List Loc), post r X → lw_J D d cB cL h0 σ σ2 X.1 X.2 g H1 → va_S (rg_A h0) s.heap H1 locs1 → W p l e R s m args below meth c H1 locs1 (cells + mc) (slots + ms) Q (F0 m (pc + 3) ls (.int r :: rest))) : W p l e R s m args below meth c H locs cells slots Q (F0 m pc ls st) := by
  subst hst
  have wM := hJ.2.2.2.1
  have hM3 : mm_W D d cB (mL (h0 + 136)) (h0 + 135) th ρ (lw_M h0 H.size) H := wM.re (fun k i hx => Or.inl (wM.2.1.2.1 k i hx)) (Or.inl wM.2.2.1)
  exact va_calli (va_runV S hM cw ⟨mm_blind, va_recv hKK.1 (mm_P hM3.1) (q0 := 0) (show vwCl[cMm]? = some (RX6, TX6, 2) from rfl) rfl, fun U hU hW9 => ⟨rfl, by rw [hU], by rw [hU]; exact hM3, hKK.on hW9⟩⟩ rfl hn hsize rfl (lv_room hrest) hdg hf) hS (fun q _ h => lw_MB hJ.2.2.2.2.2 q h) (fun q h => lw_MB hJ.2.2.2.2.2 q h) (fun r X t H1 locs1 ht _ hp hB hz hq hS1 => kk r X H1 locs1 hp (hJ.model hq hz (by rw [← ht]; exact hB)) hS1)
theorem lw_refl {post : Int64 → mm_X → Prop} (S : CallFix p m c cc nL s args Ts own) (hM : mm_Ml l y ws rm D d cB (mL (h0 + 136)) (h0 + 135) th ρ (lw_M h0 H.size) H.size (.ref (h0 + 135) :: As) post mc ms) (cw : CallW R s args own RX6 index y bytes maxL ret ws rm mc ms n) (hKK : mh_K D d cB s) (hJ : lw_J D d cB cL h0 σ σ2 th ρ g H) (hS : va_S (rg_A h0) s.heap H locs) (hn : As.length = n) (hsize : ls.size = nL) (hrest : (rest.map fun v => v.category).sum ≤ 8) (hdg : decode cc pc = .ok (.invokevirtual index, 3)) (hf : cells + mc ≤ R.cells ∧ slots + ms ≤ R.slots) (hst : st = As.reverse ++ .ref (h0 + 135) :: rest)
    (kk : ∀ (r : Int64) (X : mm_X) (H1 : Heap) (locs1 : List Loc), post r X → lw_J D d cB cL h0 σ σ2 X.1 X.2 g H1 → va_S (rg_A h0) s.heap H1 locs1 → W p l e R s m args below meth c H1 locs1 (cells + mc) (slots + ms) Q (F0 m (pc + 3) ls (.long r :: rest))) : W p l e R s m args below meth c H locs cells slots Q (F0 m pc ls st) := by
  subst hst
  have wM := hJ.2.2.2.1
  have hM3 : mm_W D d cB (mL (h0 + 136)) (h0 + 135) th ρ (lw_M h0 H.size) H := wM.re (fun k i hx => Or.inl (wM.2.1.2.1 k i hx)) (Or.inl wM.2.2.1)
  exact va_calll (va_runV S hM cw ⟨mm_blind, va_recv hKK.1 (mm_P hM3.1) (q0 := 0) (show vwCl[cMm]? = some (RX6, TX6, 2) from rfl) rfl, fun U hU hW9 => ⟨rfl, by rw [hU], by rw [hU]; exact hM3, hKK.on hW9⟩⟩ rfl hn hsize rfl (lv_room hrest) hdg hf) hS (fun q _ h => lw_MB hJ.2.2.2.2.2 q h) (fun q h => lw_MB hJ.2.2.2.2.2 q h) (fun r X t H1 locs1 ht _ hp hB hz hq hS1 => kk r X H1 locs1 hp (hJ.model hq hz (by rw [← ht]; exact hB)) hS1)
theorem lw_refd {post : UInt64 → mm_X → Prop} (S : CallFix p m c cc nL s args Ts own) (hM : mm_Md l y ws rm D d cB (mL (h0 + 136)) (h0 + 135) th ρ (lw_M h0 H.size) H.size (.ref (h0 + 135) :: As) post mc ms) (cw : CallW R s args own RX6 index y bytes maxL ret ws rm mc ms n) (hKK : mh_K D d cB s) (hJ : lw_J D d cB cL h0 σ σ2 th ρ g H) (hS : va_S (rg_A h0) s.heap H locs) (hn : As.length = n) (hsize : ls.size = nL) (hrest : (rest.map fun v => v.category).sum ≤ 8) (hdg : decode cc pc = .ok (.invokevirtual index, 3)) (hf : cells + mc ≤ R.cells ∧ slots + ms ≤ R.slots) (hst : st = As.reverse ++ .ref (h0 + 135) :: rest)
    (kk : ∀ (r : UInt64) (X : mm_X) (H1 : Heap) (locs1 : List Loc), post r X → lw_J D d cB cL h0 σ σ2 X.1 X.2 g H1 → va_S (rg_A h0) s.heap H1 locs1 → W p l e R s m args below meth c H1 locs1 (cells + mc) (slots + ms) Q (F0 m (pc + 3) ls (.double r :: rest))) : W p l e R s m args below meth c H locs cells slots Q (F0 m pc ls st) := by
  subst hst
  have wM := hJ.2.2.2.1
  have hM3 : mm_W D d cB (mL (h0 + 136)) (h0 + 135) th ρ (lw_M h0 H.size) H := wM.re (fun k i hx => Or.inl (wM.2.1.2.1 k i hx)) (Or.inl wM.2.2.1)
  exact va_calld (va_runV S hM cw ⟨mm_blind, va_recv hKK.1 (mm_P hM3.1) (q0 := 0) (show vwCl[cMm]? = some (RX6, TX6, 2) from rfl) rfl, fun U hU hW9 => ⟨rfl, by rw [hU], by rw [hU]; exact hM3, hKK.on hW9⟩⟩ rfl hn hsize rfl (lv_room hrest) hdg hf) hS (fun q _ h => lw_MB hJ.2.2.2.2.2 q h) (fun q h => lw_MB hJ.2.2.2.2.2 q h) (fun r X t H1 locs1 ht _ hp hB hz hq hS1 => kk r X H1 locs1 hp (hJ.model hq hz (by rw [← ht]; exact hB)) hS1)
theorem lw_clsi {post : Int32 → hs_St → Prop} (S : CallFix p m c cc nL s args Ts own) (hM : wx_Mi l y ws rm D d h0 (rc_L (h0 + 1)) (rc_L (h0 + 68)) σ (lw_A1 h0) (.ref h0 :: As) post) (cw : CallW R s args own RX4 index y bytes maxL ret ws rm 0 0 n) (hK : va_K D vwCl (hs_ty d) s) (hX : hx_E d.2.2.2.2 (rg_A h0) s) (hJ : lw_J D d cB cL h0 σ σ2 th ρ g H) (hS : va_S (rg_A h0) s.heap H locs) (hn : As.length = n) (hsize : ls.size = nL) (hrest : (rest.map fun v => v.category).sum ≤ 8) (hdg : decode cc pc = .ok (.invokevirtual index, 3)) (hf : cells + 0 ≤ R.cells ∧ slots + 0 ≤ R.slots) (hst : st = As.reverse ++ .ref h0 :: rest)
    (kk : ∀ (r : Int32) (τ : hs_St) (H1 : Heap) (locs1 : List Loc), post r τ → lw_J D d cB cL h0 τ σ2 th ρ g H1 → va_S (rg_A h0) s.heap H1 locs1 → W p l e R s m args below meth c H1 locs1 cells slots Q (F0 m (pc + 3) ls (.int r :: rest))) : W p l e R s m args below meth c H locs cells slots Q (F0 m pc ls st) := by
  subst hst
  have hBB : ∀ q, lw_A1 h0 q → rg_A h0 q := fun q h => lw_B1B q (Or.inl h)
  refine va_calli (va_runV S hM cw ⟨wx_blind, va_recv hK (va_P1 hJ.2.2.1) (q0 := 0) (show vwCl[cWx]? = some (RX4, TX4, 2) from rfl) rfl, fun U hU hW9 => ⟨rfl, ⟨⟨by rw [hU]; exact hJ.1, va_K.moved hW9.alike hK⟩, (hX.on hW9 hU hS).narrow hBB⟩, by rw [hU]; exact hJ.2.2.1⟩⟩ rfl hn hsize rfl (lv_room hrest) hdg hf) hS (fun q _ h => hBB q h) (fun q h => hBB q h) (fun r τ t H1 locs1 ht _ hp hB hz hq hS1 => ?_)
  have hB1 := hB.1
  rw [ht] at hB1
  exact kk r τ H1 locs1 hp (hJ.side (fun q h1 h2 => hq q h1 (fun z => h2 (Or.inl z))) hz hB1 (rf_keep1 hJ.2.2.2.2.1 (fun hl => hq _ hl (fun z => by
    have z : h0 + 1 ≤ h0 + 181 ∧ h0 + 181 < h0 + 68 := z
    omega)))) hS1
theorem lw_clsd {post : UInt64 → hs_St → Prop} (S : CallFix p m c cc nL s args Ts own) (hM : wx_Md l y ws rm D d h0 (rc_L (h0 + 1)) (rc_L (h0 + 68)) σ (lw_A1 h0) (.ref h0 :: As) post) (cw : CallW R s args own RX4 index y bytes maxL ret ws rm 0 0 n) (hK : va_K D vwCl (hs_ty d) s) (hX : hx_E d.2.2.2.2 (rg_A h0) s) (hJ : lw_J D d cB cL h0 σ σ2 th ρ g H) (hS : va_S (rg_A h0) s.heap H locs) (hn : As.length = n) (hsize : ls.size = nL) (hrest : (rest.map fun v => v.category).sum ≤ 8) (hdg : decode cc pc = .ok (.invokevirtual index, 3)) (hf : cells + 0 ≤ R.cells ∧ slots + 0 ≤ R.slots) (hst : st = As.reverse ++ .ref h0 :: rest)
    (kk : ∀ (r : UInt64) (τ : hs_St) (H1 : Heap) (locs1 : List Loc), post r τ → lw_J D d cB cL h0 τ σ2 th ρ g H1 → va_S (rg_A h0) s.heap H1 locs1 → W p l e R s m args below meth c H1 locs1 cells slots Q (F0 m (pc + 3) ls (.double r :: rest))) : W p l e R s m args below meth c H locs cells slots Q (F0 m pc ls st) := by
  subst hst
  have hBB : ∀ q, lw_A1 h0 q → rg_A h0 q := fun q h => lw_B1B q (Or.inl h)
  refine va_calld (va_runV S hM cw ⟨wx_blind, va_recv hK (va_P1 hJ.2.2.1) (q0 := 0) (show vwCl[cWx]? = some (RX4, TX4, 2) from rfl) rfl, fun U hU hW9 => ⟨rfl, ⟨⟨by rw [hU]; exact hJ.1, va_K.moved hW9.alike hK⟩, (hX.on hW9 hU hS).narrow hBB⟩, by rw [hU]; exact hJ.2.2.1⟩⟩ rfl hn hsize rfl (lv_room hrest) hdg hf) hS (fun q _ h => hBB q h) (fun q h => hBB q h) (fun r τ t H1 locs1 ht _ hp hB hz hq hS1 => ?_)
  have hB1 := hB.1
  rw [ht] at hB1
  exact kk r τ H1 locs1 hp (hJ.side (fun q h1 h2 => hq q h1 (fun z => h2 (Or.inl z))) hz hB1 (rf_keep1 hJ.2.2.2.2.1 (fun hl => hq _ hl (fun z => by
    have z : h0 + 1 ≤ h0 + 181 ∧ h0 + 181 < h0 + 68 := z
    omega)))) hS1
theorem lw_clsl {post : Int64 → hs_St → Prop} (S : CallFix p m c cc nL s args Ts own) (hM : tw_Ml l y ws rm D d h0 (rc_L (h0 + 1)) σ (lw_A1 h0) (rc_L (h0 + 68)) σ2 (lw_A2 h0) (.ref h0 :: As) post) (cw : CallW R s args own RX4 index y bytes maxL ret ws rm 0 0 n) (hK : va_K D vwCl (hs_ty d) s) (hX : hx_E d.2.2.2.2 (rg_A h0) s) (hJ : lw_J D d cB cL h0 σ σ2 th ρ g H) (hS : va_S (rg_A h0) s.heap H locs) (hn : As.length = n) (hsize : ls.size = nL) (hrest : (rest.map fun v => v.category).sum ≤ 8) (hdg : decode cc pc = .ok (.invokevirtual index, 3)) (hf : cells + 0 ≤ R.cells ∧ slots + 0 ≤ R.slots) (hst : st = As.reverse ++ .ref h0 :: rest)
    (kk : ∀ (r : Int64) (τ : hs_St) (H1 : Heap) (locs1 : List Loc), post r τ → lw_J D d cB cL h0 σ τ th ρ g H1 → va_S (rg_A h0) s.heap H1 locs1 → W p l e R s m args below meth c H1 locs1 cells slots Q (F0 m (pc + 3) ls (.long r :: rest))) : W p l e R s m args below meth c H locs cells slots Q (F0 m pc ls st) := by
  subst hst
  have hTB : ∀ q, tw_A (lw_A1 h0) (lw_A2 h0) q → lw_B h0 q := fun q h => by
    have h : (h0 + 1 ≤ q ∧ q < h0 + 68) ∨ (h0 + 68 ≤ q ∧ q < h0 + 135) := h
    exact Or.inl (by omega)
  have hBB : ∀ q, tw_A (lw_A1 h0) (lw_A2 h0) q → rg_A h0 q := fun q h => lw_BB q (hTB q h)
  refine va_calll (va_runV S hM cw ⟨tw_blind, va_recv hK (va_P1 hJ.2.2.1) (q0 := 0) (show vwCl[cWx]? = some (RX4, TX4, 2) from rfl) rfl, fun U hU hW9 => ⟨rfl, ⟨by rw [hU]; exact hJ.1, by rw [hU]; exact hJ.2.1, va_K.moved hW9.alike hK⟩, (hX.on hW9 hU hS).narrow hBB, by rw [hU]; exact hJ.2.2.1⟩⟩ rfl hn hsize rfl (lv_room hrest) hdg hf) hS (fun q _ h => hBB q h) (fun q h => hBB q h) (fun r τ t H1 locs1 ht _ hp hB hz hq hS1 => ?_)
  have hB1 := hB.1
  have hB2 := hB.2.1
  rw [ht] at hB1 hB2
  exact kk r τ H1 locs1 hp (hJ.side2 (fun q h1 h2 => hq q h1 (fun z => h2 (hTB q z))) hz hB1 hB2 (rf_keep1 hJ.2.2.2.2.1 (fun hl => hq _ hl (fun z => by
    have z : (h0 + 1 ≤ h0 + 181 ∧ h0 + 181 < h0 + 68) ∨ (h0 + 68 ≤ h0 + 181 ∧ h0 + 181 < h0 + 135) := z
    omega)))) hS1
end LWK
theorem lw_ix0 {n L : Nat} (h : 5 * n + 5 ≤ L) (hL : L ≤ 2560) : vp_in (nI (5 * n)) L := by
  unfold vp_in
  rw [nI_clamp (by omega)]
  intro z
  rcases z with z | z
  · exact nI_pos (by omega) z
  · omega
theorem lw_ix {n L : Nat} (h : 5 * n + 5 ≤ L) (hL : L ≤ 2560) (k : Nat) (hk : k < 5) : vp_in (nI (5 * n) + nI k) L := by
  have e : nI (5 * n) + nI k = nI (5 * n + k) := tI_eq (by rw [tI_add (by rw [nI_toInt (by omega), nI_toInt (by omega)]; omega) (by rw [nI_toInt (by omega), nI_toInt (by omega)]; omega), nI_toInt (by omega), nI_toInt (by omega), nI_toInt (by omega)]; omega)
  rw [e]
  unfold vp_in
  rw [nI_clamp (by omega)]
  intro z
  rcases z with z | z
  · exact nI_pos (by omega) z
  · omega
theorem lw_and_bv (x : BitVec 32) : (x &&& 31#32).toNat < 32 := by
  rw [BitVec.toNat_and]
  exact Nat.lt_succ_of_le Nat.and_le_right
theorem lw_and_ti (x : Int32) : (x &&& 31).toInt = ((x.toBitVec &&& 31#32).toNat : Int) := by
  have h := lw_and_bv x.toBitVec
  show (x &&& 31).toBitVec.toInt = _
  rw [Int32.toBitVec_and]
  show (x.toBitVec &&& 31#32).toInt = _
  rw [BitVec.toInt_eq_toNat_of_lt (by omega)]
theorem lw_and (x : Int32) : ∃ n : Nat, n < 32 ∧ x &&& 31 = nI n := by
  have h := lw_and_bv x.toBitVec
  exact ⟨(x.toBitVec &&& 31#32).toNat, h, tI_eq (by rw [lw_and_ti, nI_toInt (by omega)])⟩
def lw_G (p : Program) (l : Launch) (s : State) (m : MethodId) (meth : Method) (c : Code) (b : Nat) (L : Nat) (D : va_G) (d : hs_Dm) (cB cL : ClassId) (xs : Nat → Int32) : Prop := p.tables.exec = Jvm.exec ∧ c.code = cL_law ∧ meth.sig.returnType = ret ∧ meth.locks = false ∧ c.maxLocals = 9 ∧ s.vm.findClass RL = some m.cls ∧ (∀ w ∈ lw_tbl, w.before #[Value.ref b] s = true) ∧ l.stackTraces = false ∧ va_X b L xs s s.heap ∧ b < s.heap.size ∧ va_K D vwCl (hs_ty d) s ∧ mh_K D d cB s ∧ va_K D vwCl [(cL, .long)] s ∧ hx_E d.2.2.2.2 (rg_A s.heap.size) s ∧ hl_N s ∧ L ≤ 2560
