/-! THE LAW, from its entry -/
def lw_TL (x : Nat) : hs_Lo := fun k _ => if k = 0 then x else x + 135 + k
def lw_c0 (k : Nat) : hs_St := fun a i j => if a = 0 ∧ i = 0 then (if j = 2 then nI k else if j = 11 then 5 else if j = 12 then 200 else if j = 13 then 30 else 0) else 0
abbrev lw_TA (x sz : Nat) : Nat → Prop := fun q => q = x ∨ (x + 2 ≤ q ∧ q < x + 69) ∨ (x + 136 ≤ q ∧ q < x + 143) ∨ sz ≤ q
theorem lw_rgk {D : va_G} {C : Nat → va_E} {b m : Nat} {H H1 : Heap} (h : rg D C b m H) (oq : ∀ q : Nat, q < H.size → b ≤ q → q < b + m → H1[q]? = H[q]?) : rg D C b m H1 := fun j hj => (h j hj).kept (oq _ (h j hj).lt (Nat.le_add_right b j) (by show b + j < b + m; omega))
theorem lw_tH {x b sz s0 : Nat} (hx : s0 ≤ x) (hb : b < s0) (hz : x + 143 ≤ sz) : tl_H (x + 1) b (lw_A (x + 2)) (lw_TA x sz) sz := ⟨fun q h => Or.inr (Or.inr (Or.inr h)), fun q h => Or.inr (Or.inl ⟨h.1, by have := h.2; omega⟩), fun z => by
  rcases z with z | z | z | z <;> omega, fun z => by
  rcases z with z | z | z | z <;> omega, by omega, by omega⟩
section LTT
variable {D : va_G} {d : hs_Dm} {cB : ClassId} {bs x : Nat} {v : Int32} {H : Heap}
theorem lw_Th (hg : rg D (tl_T d cB bs v x) x 143 H) : hs_W D d (rc_L (x + 2)) rc_s (lw_A (x + 2)) H := rc_W (fun j hj => by
  have h := hg (j + 2) (by omega)
  rw [show x + (j + 2) = x + 2 + j by omega, show tl_T d cB bs v x (j + 2) = rc_N d (x + 2) j from by unfold tl_T rc_X; rw [if_neg (by omega), if_pos (by omega), if_neg (by omega), if_pos (by omega)]; rfl] at h
  exact h) (fun j hj => ⟨by omega, by omega⟩)
theorem lw_Tt (hg : rg D (tl_T d cB bs v x) x 143 H) : hs_W D d (rc_L (x + 69)) rc_s (lw_A (x + 69)) H := rc_W (fun j hj => by
  have h := hg (j + 69) (by omega)
  rw [show x + (j + 69) = x + 69 + j by omega, show tl_T d cB bs v x (j + 69) = rc_N d (x + 69) j from by unfold tl_T rc_X; rw [if_neg (by omega), if_pos (by omega), if_neg (by omega), if_neg (by omega), show j + 69 - 1 - 68 = j by omega]] at h
  exact h) (fun j hj => ⟨by omega, by omega⟩)
theorem lw_Tw (hg : rg D (tl_T d cB bs v x) x 143 H) : va_at D vwCl (x + 1, .inr (cWx, [.ref (rc_L (x + 2) 0 0), .ref (rc_L (x + 69) 0 0)])) H := hg 1 (by decide)
theorem lw_Tb {k sz : Nat} (hg : rg D (tl_T d cB bs (nI k) x) x 143 H) (hz : x + 143 ≤ H.size) : tl_B D d x (x + 1) bs cB (rc_L (x + 2)) (lw_A (x + 2)) (lw_TA x sz) (lw_TL x) (fun _ => 0) (lw_c0 k) rc_s H := by
  have hix : ∀ {k i : Nat}, tl_ix (fun _ => 0) k i → k < 8 ∧ i = 0 := fun {k i} h => by
    rcases h with h | ⟨-, -, h⟩
    · exact h
    · exact absurd h (Nat.not_lt_zero _)
  refine ⟨⟨fun k i hx => ?_, fun k i hx => ?_, fun k i k' i' hx hx' e => ?_⟩, fun k i hx z => ?_, lw_Th hg, fun q h => by have := h.2; omega, rfl⟩
  · obtain ⟨h1, rfl⟩ := hix hx
    by_cases e : k = 0
    · subst e
      rw [tl_ct0]
      exact hg 0 (by decide)
    · rw [tl_ctO 0 (by omega) (by omega)]
      have h := hg (135 + k) (by omega)
      rw [show tl_T d cB bs (nI _) x (135 + k) = .inl (cB, 0, .inr (.inr (.inr (.inr (fun _ => none))))) from by unfold tl_T; rw [if_neg (by omega), if_neg (by omega)], show x + (135 + k) = lw_TL x k 0 from by unfold lw_TL; rw [if_neg e]; omega] at h
      exact rc_arr h (fun j hj => absurd hj (Nat.not_lt_zero _))
  · obtain ⟨h1, rfl⟩ := hix hx
    show lw_TL x k 0 = x ∨ _
    unfold lw_TL
    by_cases e : k = 0
    · rw [if_pos e]
      exact Or.inl rfl
    · rw [if_neg e]
      exact Or.inr (Or.inr (Or.inl ⟨by omega, by omega⟩))
  · obtain ⟨h1, rfl⟩ := hix hx
    obtain ⟨h1', rfl⟩ := hix hx'
    refine ⟨?_, rfl⟩
    unfold lw_TL at e
    by_cases e1 : k = 0
    · rw [if_pos e1] at e
      by_cases e2 : k' = 0
      · omega
      · rw [if_neg e2] at e
        omega
    · rw [if_neg e1] at e
      by_cases e2 : k' = 0
      · rw [if_pos e2] at e
        omega
      · rw [if_neg e2] at e
        omega
  · obtain ⟨h1, rfl⟩ := hix hx
    have z1 : x + 2 ≤ lw_TL x k 0 := z.1
    have z2 : lw_TL x k 0 < x + 2 + 67 := z.2
    unfold lw_TL at z1 z2
    by_cases e : k = 0
    · rw [if_pos e] at z1
      omega
    · rw [if_neg e] at z2
      omega
theorem lw_T1 {k : Nat} (hg : rg D (tl_T d cB bs (nI k) x) x 143 H) : lw_1 D d bs (x, lw_TL x, lw_c0 k 0 0) k rc_s rc_s H := ⟨hg 0 (by decide), lw_Tw hg, lw_Th hg, lw_Tt hg⟩
theorem lw_tg0 (k : Nat) : tg 0 0 0 (fun _ => 0) (lw_c0 k) rc_s k 0 := ⟨rc_s_ok, pd_start, ⟨rfl, rfl, rfl, rfl, rfl, rfl, rfl⟩, rfl, rfl, rfl, fun q h => absurd h (Nat.not_lt_zero _), fun f h => absurd h (Nat.not_lt_zero _)⟩
theorem lw_X1 {sz k : Nat} {A : Nat → Prop} {X : tl_X} {τ : hs_St} (hB : tl_Bx D d x (x + 1) bs cB (rc_L (x + 2)) (lw_A (x + 2)) A X H) (hk : X.2.2.1 0 0 2 = nI k) (hw : va_at D vwCl (x + 1, .inr (cWx, [.ref (rc_L (x + 2) 0 0), .ref (rc_L (x + 69) 0 0)])) H) (ht : hs_W D d (rc_L (x + 69)) τ (lw_A (x + 69)) H) : lw_1 D d bs (x, X.1, X.2.2.1 0 0) k X.2.2.2 τ H := by
  refine ⟨?_, hw, hB.2.2.1, ht⟩
  have h := tl_pO hB 0 _ rfl
  rw [hk] at h
  exact h
end LTT
/-! what founding has made -/
theorem lf_new (xs : Nat → Int32) (N : Nat) (σ : hs_St) (k a i j : Nat) (ha : a = 4 ∨ a = 10) : ∀ n, tf_d xs N σ k n a i j = σ a i j ∨ (a = 4 ∧ j = 6)
  | 0 => Or.inl rfl
  | n + 1 => by
    by_cases hj : a = 4 ∧ j = 6
    · exact Or.inr hj
    · rcases lf_new xs N σ k a i j ha n with e | e
      · refine Or.inl ?_
        have h9 : ∀ σ2 : hs_St, σ2 a i j = σ a i j → ∀ q v, hs_sg (sp_newF σ2 n q) 9 n 4 v a i j = σ a i j := fun σ2 h q v => by
          rw [pc_sg, if_neg (by omega), md_F (by omega) (by omega)]
          exact h
        unfold tf_d
        rcases ha with ha | ha
        · subst ha
          rw [q5_pass _ _ (by omega)]
          exact h9 _ e _ _
        · subst ha
          rw [qr_pass]
          exact h9 _ e _ _
      · exact absurd e hj
theorem lf_t (xs : Nat → Int32) (N : Nat) (σ : hs_St) (k a i j : Nat) (ha : a = 4 ∨ a = 10) : ∀ n, tf_t xs N σ k n a i j = σ a i j
  | 0 => rfl
  | n + 1 => by
    unfold tf_t
    rw [pc_sg, if_neg (by omega)]
    exact lf_t xs N σ k a i j ha n
theorem lf_r4 (xs : Nat → Int32) (N : Nat) (σ : hs_St) (k i j : Nat) : ∀ n, tf_r xs N σ k n 4 i j = σ 4 i j
  | 0 => rfl
  | n + 1 => by
    unfold tf_r sp_newR
    rw [pc_sg, if_neg (by omega), pc_sg, if_neg (by omega), pc_sg, if_neg (by omega)]
    exact lf_r4 xs N σ k i j n
theorem lf_r (xs : Nat → Int32) (N : Nat) (σ : hs_St) (k : Nat) : ∀ n r, r < n → 0 ≤ tf_r xs N σ k n 10 r 1
  | 0, r, h => absurd h (Nat.not_lt_zero _)
  | n + 1, r, h => by
    unfold tf_r sp_newR
    by_cases e : r = n
    · subst e
      rw [pc_sg, if_pos ⟨rfl, rfl, rfl⟩]
      obtain ⟨j, hj, ej⟩ := tl_v_in xs N (k + 2 * r + 1) (m := 4) (by decide) (by decide)
      rw [show tl_v xs N (k + 2 * r + 1) 4 = nI j from ej, show (1 : Int32) + nI j = nI (1 + j) from nI_add 1 j]
      exact nI_pos' (by omega)
    · rw [pc_sg, if_neg (by omega), pc_sg, if_neg (by omega), pc_sg, if_neg (by omega)]
      exact lf_r xs N σ k n r (by omega)
theorem lf_le (σ : hs_St) (q j a : Nat) (x y : Int32) : sp_learn σ q j x y 4 a 5 = σ 4 a 5 := by
  unfold sp_learn
  by_cases h : (if σ 7 q j < x then x else σ 7 q j) ≤ (if y < σ 8 q j then y else σ 8 q j)
  · rw [if_pos h, pc_sg, if_neg (by omega), pc_sg, if_neg (by omega), pc_sg, if_neg (by omega)]
  · rw [if_neg h, pc_sg, if_neg (by omega), pc_sg, if_neg (by omega), pc_sg, if_neg (by omega)]
theorem lf_ms (σ : hs_St) (q j a : Nat) (x y : Int32) : tl_ms σ q j x y 4 a 5 = σ 4 a 5 := lf_le _ _ _ _ _ _
theorem lf_m (xs : Nat → Int32) (N : Nat) (σ : hs_St) (q k a : Nat) : ∀ n, tf_m xs N σ q k n 4 a 5 = σ 4 a 5
  | 0 => rfl
  | n + 1 => by
    unfold tf_m
    rw [lf_ms]
    exact lf_m xs N σ q k a n
theorem lf_p (xs : Nat → Int32) (N : Nat) (σ : hs_St) (k a : Nat) (h : σ 4 a 5 = 0 ∨ σ 4 a 5 = 1) : ∀ n, tf_p xs N σ k n 4 a 5 = 0 ∨ tf_p xs N σ k n 4 a 5 = 1
  | 0 => h
  | n + 1 => by
    unfold tf_p tf_p1
    rw [lf_m]
    by_cases e : a = n
    · subst e
      rw [pc_sg, if_pos ⟨rfl, rfl, rfl⟩]
      unfold tf_c
      split
      · exact Or.inl rfl
      · exact Or.inr rfl
    · rw [pc_sg, if_neg (by omega)]
      unfold sp_newP
      rw [pc_sg, if_neg (by omega), pc_sg, if_neg (by omega), pc_sg, if_neg (by omega), pc_sg, if_neg (by omega)]
      exact lf_p xs N σ k a h n
theorem lf_all {xs : Nat → Int32} {N k : Nat} {n : Nat → Nat} {c : hs_St} (hT : tg 4 5 3 n c (tf_all xs N rc_s k) (k + 122) 16) (hd : ∀ f, f < 4 → tf_all xs N rc_s k 9 f 2 = nI 6 ∧ tf_all xs N rc_s k 9 f 4 = 0) : lw_I (tf_all xs N rc_s k) 16 := by
  have h4 : ∀ a, tf_all xs N rc_s k 4 a 5 = 0 ∨ tf_all xs N rc_s k 4 a 5 = 1 := fun a => by
    unfold tf_all
    rw [md_F (by omega) (by omega), (lf_new xs N _ _ 4 a 5 (Or.inl rfl) 4).resolve_right (by omega), lf_t xs N _ _ 4 a 5 (Or.inl rfl), lf_r4]
    exact lf_p xs N rc_s k a (Or.inl rfl) 4
  have hr : ∀ r, r < 3 → 0 ≤ tf_all xs N rc_s k 10 r 1 := fun r h => by
    unfold tf_all
    rw [md_F (by omega) (by omega), (lf_new xs N _ _ 10 r 1 (Or.inr rfl) 4).resolve_right (by omega), lf_t xs N _ _ 10 r 1 (Or.inr rfl)]
    exact lf_r xs N _ _ 3 r h
  generalize tf_all xs N rc_s k = σ at hT hd h4 hr ⊢
  obtain ⟨t1, t2, -, -, -, t6, -, t8⟩ := hT
  refine ⟨t1, t2, fun f hf => ?_, fun f hf => ?_, h4, fun f hf => ?_, hd, ?_, t6, hr⟩
  · obtain ⟨-, -, ⟨q, q1, -, q3, q4⟩, -⟩ := t8 f hf
    rw [q3, q4, nI_clamp (by omega)]
    exact ⟨rfl, rfl⟩
  · obtain ⟨-, -, ⟨q, q1, -, q3, q4⟩, -⟩ := t8 f hf
    rw [q3, q4, nI_clamp (by omega)]
    exact ⟨q1, q1⟩
  · obtain ⟨-, q2, -⟩ := t8 f hf
    rw [q2]
    decide
  · obtain ⟨-, q2, -, q4⟩ := t8 4 (by decide)
    rcases q4 with ⟨j, w, h, a1, a2, a3, a4, a5, -⟩ | ⟨a1, a2, -⟩
    · exact Or.inr ⟨j, w, h, a1, a2, a3, a4, a5, q2⟩
    · exact Or.inl ⟨a1, a2⟩
section LTR
variable {p : Program} {l : Launch} {e : Env} {R : Room} {s : State} {m : MethodId} {args : Array Value} {below : List Frame} {meth : Method} {c0 : Code} {H : Heap} {locs : List Loc} {cells slots : Nat} {Q : State → Prop}
variable {cc : ByteArray} {pc : Nat} {ls : Array Slot} {rest : List Value} {D : va_G} {d : hs_Dm} {b N : Nat} {cB cW : ClassId} {xs : Nat → Int32}
variable {y : MethodName} {bytes : ByteArray} {maxL nL na index : Nat} {ret : Option FieldType} {ws : List Cond} {rm : Room} {Ts : List Cond} {own : String} {As st : List Value}
theorem lw_newT (hexec : p.tables.exec = Jvm.exec) (hb : c0.code = cc) (hts : ∀ w ∈ Ts, w.before args s = true) (hin : ∀ w ∈ u_ws RX5 TX5 15, w ∈ Ts) (hown : s.vm.findClass own = some m.cls) (hcl : (Cond.classLink own index RX5).before args s = true) (hinst : (Cond.instantiable RX5 15).before args s = true) (hini : (Cond.initialized RX5).before args s = true) (hK : va_K D vwCl (hs_ty d) s) (hS : va_S (rg_A s.heap.size) s.heap H locs) (hcells : cells + 1 ≤ R.cells) (hslots : slots + 15 ≤ R.slots) (hdg : decode cc pc = .ok (.new index, 3))
    (kk : ∀ (H1 : Heap), va_at D vwCl (H.size, .inr (cTo, [.null, .null, .int 0, .null, .null, .null, .null, .null, .null, .null, .int 0, .int 0, .int 0, .int 0, .int 0])) H1 → H1.size = H.size + 1 → va_S (rg_A s.heap.size) s.heap H1 locs → (∀ q : Nat, q < H.size → H1[q]? = H[q]?) → W p l e R s m args below meth c0 H1 locs (cells + 1) (slots + 15) Q (F0 m (pc + 3) ls (.ref H.size :: rest))) : W p l e R s m args below meth c0 H locs cells slots Q (F0 m pc ls rest) := by
  have hc : vwCl[cTo]? = some (RX5, TX5, 15) := rfl
  have hKn := hK.1 cTo _ hc
  refine W.newcK hexec hb hown hcl hinst hini rfl hdg hcells hslots hKn.2.1 rfl fun H1 kC hkC e1 z1 o1 => ?_
  have hfs : ∀ j, j < 15 → defaultValue (tyX5 j) = vp_V ([.null, .null, .int 0, .null, .null, .null, .null, .null, .null, .null, .int 0, .int 0, .int 0, .int 0, .int 0] : List Value) j := fun j hj => by
    rcases (show j = 0 ∨ j = 1 ∨ j = 2 ∨ j = 3 ∨ j = 4 ∨ j = 5 ∨ j = 6 ∨ j = 7 ∨ j = 8 ∨ j = 9 ∨ j = 10 ∨ j = 11 ∨ j = 12 ∨ j = 13 ∨ j = 14 by omega) with rfl | rfl | rfl | rfl | rfl | rfl | rfl | rfl | rfl | rfl | rfl | rfl | rfl | rfl | rfl <;> rfl
  exact kk H1 ⟨_, hc, (u_born tyX5 hts hin hKn hkC e1 tyX5_ok).to hfs⟩ z1 (rg_S hS (by omega) o1) o1
theorem lw_initT {x mc ms k : Nat} {C0 C2 : Nat → va_E} (S : CallFix p m c0 cc nL s args Ts own) (hM : tl_MI l y ws rm D d cB C0 C2 x 1 k (.ref x :: As) mc ms) (cw : CallB R s args own index y bytes maxL none ws rm mc ms na ∧ y.name = "<init>" ∧ (Cond.instanceMethod y).before args s = true) (hE : lw_E D d cB cW b N xs s) (hx : s.heap.size ≤ x) (h0 : va_at D vwCl (x, C0 0) H) (hz : H.size = x + 1) (hS : va_S (rg_A s.heap.size) s.heap H locs) (hn : As.length = na) (hsize : ls.size = nL) (hrest : (rest.map fun v => v.category).sum ≤ 8) (hdg : decode cc pc = .ok (.invokespecial index, 3)) (hf : cells + mc ≤ R.cells ∧ slots + ms ≤ R.slots) (hst : st = As.reverse ++ .ref x :: rest)
    (kk : ∀ (H1 : Heap) (locs1 : List Loc), rg D C2 x k H1 → H1.size = x + k → (∀ q : Nat, q < x → H1[q]? = H[q]?) → va_S (rg_A s.heap.size) s.heap H1 locs1 → W p l e R s m args below meth c0 H1 locs1 (cells + mc) (slots + ms) Q (F0 m (pc + 3) ls rest)) : W p l e R s m args below meth c0 H locs cells slots Q (F0 m pc ls st) := by
  subst hst
  obtain ⟨hK, hK2, hK3, hA1, hA2, hX, hXs, hN1, hN2, hA3⟩ := hE
  have hlast : rg D C0 x 1 H := fun j hj => by
    have e : j = 0 := by omega
    subst e
    exact h0
  refine va_callv (va_runI S hM cw ⟨tl_blindI, fun U hU hW2 => ⟨rfl, ⟨⟨by rw [hU]; omega, by rw [hU]; exact hlast, va_K.moved hW2.alike hK⟩, (hX.1.on hW2 hU hS).narrow (fun q h => Nat.le_trans hx h), va_AO.moved hW2.alike hA3.1, va_AO.moved hW2.alike hA3.2.1, va_AO.moved hW2.alike hA3.2.2⟩, va_K.moved hW2.alike hK2, over_moved hW2.alike hA2⟩⟩ rfl hn hsize rfl (lv_room hrest) hdg hf) hS (fun q _ h => Nat.le_trans hx h) (fun q h => Nat.le_trans hx h) (fun u t H1 locs1 ht _ _ hB hzz hq hS1 => ?_)
  obtain ⟨b1, b2, -⟩ := hB
  rw [ht] at b1 b2
  exact kk H1 locs1 b2 b1 (fun q h => hq q (by omega) (by show ¬ x ≤ q; omega)) hS1
theorem lw_fd {x mc ms : Nat} {L : hs_Lo} {n : Nat → Nat} {c σ : hs_St} {post : Int32 → tl_X → Prop} (S : CallFix p m c0 cc nL s args Ts own) (hM : tl_Mi l y ws rm D d x (x + 1) b cB (rc_L (x + 2)) (rc_L (x + 69)) (lw_A (x + 2)) (lw_TA x H.size) N xs L n c σ H.size As post mc ms) (cw : CallB R s args own index y bytes maxL ret ws rm mc ms na ∧ (Cond.static y).before args s = true) (hE : lw_E D d cB cW b N xs s) (hx : s.heap.size ≤ x) (hxz : x + 143 ≤ H.size) (hbs : b < s.heap.size) (hB : tl_B D d x (x + 1) b cB (rc_L (x + 2)) (lw_A (x + 2)) (lw_TA x H.size) L n c σ H) (hV : va_at D vwCl (x + 1, .inr (cWx, [.ref (rc_L (x + 2) 0 0), .ref (rc_L (x + 69) 0 0)])) H) (hS : va_S (rg_A s.heap.size) s.heap H locs) (hn : As.length = na) (hsize : ls.size = nL) (hrest : (rest.map fun v => v.category).sum ≤ 8) (hdg : decode cc pc = .ok (.invokestatic index, 3)) (hf : cells + mc ≤ R.cells ∧ slots + ms ≤ R.slots) (hst : st = As.reverse ++ rest)
    (kk : ∀ (r : Int32) (X : tl_X) (H1 : Heap) (locs1 : List Loc), post r X → tl_Bx D d x (x + 1) b cB (rc_L (x + 2)) (lw_A (x + 2)) (lw_TA x H.size) X H1 → H.size ≤ H1.size → (∀ q : Nat, q < H.size → ¬ lw_TA x H.size q → H1[q]? = H[q]?) → va_S (rg_A s.heap.size) s.heap H1 locs1 → W p l e R s m args below meth c0 H1 locs1 (cells + mc) (slots + ms) Q (F0 m (pc + 3) ls (.int r :: rest))) : W p l e R s m args below meth c0 H locs cells slots Q (F0 m pc ls st) := by
  subst hst
  obtain ⟨hK, hK2, hK3, hA1, hA2, hX, hXs, hN1, hN2, hA3⟩ := hE
  have hbA : ¬ rg_A s.heap.size b := Nat.not_le.mpr hbs
  have hAB : ∀ q, lw_TA x H.size q → rg_A s.heap.size q := fun q h => by
    show s.heap.size ≤ q
    rcases h with h | h | h | h <;> omega
  exact va_calli (va_runS S hM cw ⟨tl_blind, fun U hU hW9 => ⟨rfl, by rw [hU], by rw [hU]; exact hB, va_K.moved hW9.alike hK, va_K.moved hW9.alike hK2, over_moved hW9.alike hA2, (hX.on hW9 hU hS).narrow hAB, by rw [hU]; exact hV, by rw [hU]; exact (va_X.moved hW9.alike hXs).kept (hS.2.1 b hbs hbA), va_Nw.warmM hW9 hN1, va_Nw.warmM hW9 hN2⟩⟩ rfl hn hsize rfl (lv_room hrest) hdg hf) hS (fun q _ h => hAB q h) (fun q h => hAB q h) (fun r X t H1 locs1 ht _ hp hB1 hz hq hS1 => kk r X H1 locs1 hp (by rw [ht] at hB1; exact hB1) hz hq hS1)
end LTR
set_option maxHeartbeats 4000000 in
set_option maxRecDepth 100000 in
/-- the law: three times -/
theorem law_times {p : Program} {l : Launch} {e : Env} {s : State} {m : MethodId} {below : List Frame} {meth : Method} {c0 : Code} {D : va_G} {d : hs_Dm} {cB cW : ClassId} {b N : Nat} {xs : Nat → Int32} (G : lw_N p s m c0 D d cB cW b N xs) (hr : meth.sig.returnType = ret) (hlocks : meth.locks = false) (hbs : b < s.heap.size) : ∀ (kk tm : Nat), tm + kk = 3 → ∀ (H : Heap) (locs : List Loc), va_S (rg_A s.heap.size) s.heap H locs → ∀ ls : Array Slot, lv_has ls 22 [(1, .int (nI tm)), (0, .ref b)] → W p l e room_1 s m #[Value.ref b] below meth c0 H locs (437 * tm) (2600 * tm) (lw_Z below #[Value.ref b] s) (F0 m 2 ls []) := by
  obtain ⟨hx, hb, hml, hown, hts, hE, hN31⟩ := id G
  intro kk
  induction kk with
  | zero =>
    intro tm hn H locs hS ls hl
    have htm : tm = 3 := by omega
    refine lv_iload_n hx hb dL_law_2 rfl (lv_at hl 0 rfl) ?_
    refine lv_iconst (v := 3) hx hb dL_law_3 (by decide) ?_
    refine lv_icmp_ge (tgt := 685) hx hb dL_law_4 (by decide) (fun c_4 => ?_) (fun c_4 => ?_)
    · refine lv_iconst (v := 1) hx hb dL_law_685 (by decide) ?_
      refine va_forget (fun q hq => hS.2.2 q hq) ?_
      refine W.widen (k := 728564) (n := 6915931) (by omega) (by omega) ?_
      exact lw_ret hx hb hr hlocks dL_law_686
    · exact absurd (by rw [htm]; exact nI_le (a := 3) (b := 3) (Nat.le_refl _) (by decide)) c_4
  | succ kk ih =>
    intro tm hn H locs hS ls hl
    have htm : tm < 3 := by omega
    refine lv_iload_n hx hb dL_law_2 rfl (lv_at hl 0 rfl) ?_
    refine lv_iconst (v := 3) hx hb dL_law_3 (by decide) ?_
    refine lv_icmp_ge (tgt := 685) hx hb dL_law_4 (by decide) (fun c_4 => ?_) (fun c_4 => ?_)
    · exact absurd c_4 (nI_ge (b := 3) htm (by decide))
    · have hSo := hS
      refine lw_newT hx hb hts inlX5 hown (hts (.classLink RL 9 RX5) (by decide +kernel)) (hts (.instantiable RX5 15) (by decide +kernel)) (hts (.initialized RX5) (by decide +kernel)) hE.1 hS (by show 437 * tm + 1 ≤ 728564; omega) (by show 2600 * tm + 15 ≤ 6915931; omega) dL_law_7 (fun H9 h0 hz hS hq9 => ?_)
      generalize hx1 : H.size = x1 at h0 hz hq9 ⊢
      have hxs1 : s.heap.size ≤ x1 := by rw [← hx1]; exact hSo.1
      refine lv_dup hx hb dL_law_10 rfl ?_
      refine lv_aload_n hx hb dL_law_11 rfl (lv_at hl 1 rfl) ?_
      refine lv_bipush (v := 31) hx hb dL_law_12 (by decide) ?_
      refine lv_iload_n hx hb dL_law_14 rfl (lv_at hl 0 rfl) ?_
      refine lv_imul hx hb dL_law_15 ?_
      rw [show (31 : Int32) * nI tm = nI (31 * tm) from tl_mul 31 tm]
      refine lv_bipush (v := 7) hx hb dL_law_16 (by decide) ?_
      refine lv_iadd hx hb dL_law_18 ?_
      rw [show nI (31 * tm) + 7 = nI (31 * tm + 7) from nI_add (31 * tm) 7]
      refine lw_initT (x := x1) (As := [.ref b, .int (nI (31 * tm + 7))]) ⟨hx, hb, hml, hown, hts⟩ (kX5_init l D d cB b (nI (31 * tm + 7)) x1) (cwI 2 hts gL_law_X5_init rfl rfl rfl (hts (.initialized RX5) (by decide +kernel)) (hts (.methodLink RL 11 yX5_init) (by decide +kernel)) (hts (.instanceMethod yX5_init) (by decide +kernel)) rfl (by decide +kernel) ⟨Nat.le_of_ble_eq_true rfl, Nat.le_of_ble_eq_true rfl⟩) hE hxs1 h0 hz hS rfl hl.1 (Nat.le_of_ble_eq_true rfl) dL_law_19 ⟨(by show 437 * tm + 1 + 142 ≤ 728564; omega), (by show 2600 * tm + 15 + 786 ≤ 6915931; omega)⟩ rfl (fun H locs hg1 hz hq9 hS => ?_)
      refine lv_astore_n (lv' := [(2, .ref x1), (1, .int (nI tm)), (0, .ref b)]) hx hb dL_law_22 rfl hl (by decide) rfl (fun ls hl => ?_)
      have hSo := hS
      refine lw_newT hx hb hts inlX5 hown (hts (.classLink RL 9 RX5) (by decide +kernel)) (hts (.instantiable RX5 15) (by decide +kernel)) (hts (.initialized RX5) (by decide +kernel)) hE.1 hS (by show 437 * tm + 143 + 1 ≤ 728564; omega) (by show 2600 * tm + 801 + 15 ≤ 6915931; omega) dL_law_23 (fun H9 h0 hz hS hq9 => ?_)
      generalize hx2 : H.size = x2 at h0 hz hq9 ⊢
      have hg1 := hg1.kept (fun q h1 _ => hq9 q (by omega))
      have hxs2 : s.heap.size ≤ x2 := by rw [← hx2]; exact hSo.1
      refine lv_dup hx hb dL_law_26 rfl ?_
      refine lv_aload_n hx hb dL_law_27 rfl (lv_at hl 2 rfl) ?_
      refine lv_bipush (v := 31) hx hb dL_law_28 (by decide) ?_
      refine lv_iload_n hx hb dL_law_30 rfl (lv_at hl 1 rfl) ?_
      refine lv_imul hx hb dL_law_31 ?_
      rw [show (31 : Int32) * nI tm = nI (31 * tm) from tl_mul 31 tm]
      refine lv_bipush (v := 7) hx hb dL_law_32 (by decide) ?_
      refine lv_iadd hx hb dL_law_34 ?_
      rw [show nI (31 * tm) + 7 = nI (31 * tm + 7) from nI_add (31 * tm) 7]
      refine lw_initT (x := x2) (As := [.ref b, .int (nI (31 * tm + 7))]) ⟨hx, hb, hml, hown, hts⟩ (kX5_init l D d cB b (nI (31 * tm + 7)) x2) (cwI 2 hts gL_law_X5_init rfl rfl rfl (hts (.initialized RX5) (by decide +kernel)) (hts (.methodLink RL 11 yX5_init) (by decide +kernel)) (hts (.instanceMethod yX5_init) (by decide +kernel)) rfl (by decide +kernel) ⟨Nat.le_of_ble_eq_true rfl, Nat.le_of_ble_eq_true rfl⟩) hE hxs2 h0 hz hS rfl hl.1 (Nat.le_of_ble_eq_true rfl) dL_law_35 ⟨(by show 437 * tm + 144 + 142 ≤ 728564; omega), (by show 2600 * tm + 816 + 786 ≤ 6915931; omega)⟩ rfl (fun H locs hg2 hz hq9 hS => ?_)
      have hg1 := hg1.kept (fun q h1 h2 => hq9 q (by omega))
      refine lv_astore_n (lv' := [(3, .ref x2), (2, .ref x1), (1, .int (nI tm)), (0, .ref b)]) hx hb dL_law_38 rfl hl (by decide) rfl (fun ls hl => ?_)
      refine lv_aload_n hx hb dL_law_39 rfl (lv_at hl 1 rfl) ?_
      refine lw_get (y1 := (x1, lw_TL x1, lw_c0 (31 * tm + 7) 0 0)) (y2 := (x2, lw_TL x2, lw_c0 (31 * tm + 7) 0 0)) hx hb hts inlX5 hown hE (show lw_B D d b (x1, lw_TL x1, lw_c0 (31 * tm + 7) 0 0) (x2, lw_TL x2, lw_c0 (31 * tm + 7) 0 0) (31 * tm + 7) (31 * tm + 7) rc_s rc_s rc_s rc_s H from ⟨lw_T1 hg1, lw_T1 hg2⟩) 0 (by decide) (hts (.fieldLink RL 14 "WaxrowLaw$Told" "m" "LWaxrow;") (by decide +kernel)) rfl (v := .ref (x1 + 1)) rfl dL_law_40 ?_
      refine lv_astore (lv' := [(4, .ref (x1 + 1)), (3, .ref x2), (2, .ref x1), (1, .int (nI tm)), (0, .ref b)]) hx hb dL_law_43 hl (by decide) rfl (fun ls hl => ?_)
      refine lv_aload_n hx hb dL_law_45 rfl (lv_at hl 2 rfl) ?_
      have hzz : x1 + 143 ≤ H.size := by omega
      refine lw_fd (x := x1) (As := [.ref x1]) ⟨hx, hb, hml, hown, hts⟩ (kL_isFounded l D d x1 (x1 + 1) b cB (rc_L (x1 + 2)) (rc_L (x1 + 69)) (lw_A (x1 + 2)) (lw_TA x1 H.size) N xs (lw_TL x1) (fun _ => 0) (lw_c0 (31 * tm + 7)) rc_s H.size (lw_tH hxs1 hbs hzz) hN31 (31 * tm + 7) (by omega) (lw_tg0 (31 * tm + 7))) (va_cwS 1 hts gL_law_L_isFounded rfl rfl rfl (by decide +kernel) ⟨Nat.le_of_ble_eq_true rfl, Nat.le_of_ble_eq_true rfl⟩) hE hxs1 hzz hbs (lw_Tb hg1 hzz) (lw_Tw hg1) hS rfl hl.1 (Nat.le_of_ble_eq_true rfl) dL_law_46 ⟨(by show 437 * tm + 286 + 72 ≤ 728564; omega), (by show 2600 * tm + 1602 + 492 ≤ 6915931; omega)⟩ rfl (fun r_ X1 H locs hp hB9 hz9 hq9 hS => ?_)
      obtain ⟨e1_, e2_1, e3_1, e4_1⟩ := hp
      subst e1_
      have hB1 : lw_1 D d b (x1, X1.1, X1.2.2.1 0 0) ((31 * tm + 7) + 122) X1.2.2.2 rc_s H := lw_X1 (sz := 0) hB9 e3_1.2.2.2.1 ((lw_Tw hg1).kept (hq9 _ (lw_Tw hg1).lt (fun z => by rcases z with z | z | z | z <;> (simp only at z; omega)))) ((lw_Tt hg1).kept (fun q z1 z2 => hq9 q z1 (fun z => by have := z2.1; have := z2.2; rcases z with z | z | z | z <;> omega)))
      have hg2 := lw_rgk (H1 := H) hg2 (fun q h1 h2 h3 => hq9 q h1 (fun z => by rcases z with z | z | z | z <;> omega))
      have hz : x2 + 143 ≤ H.size := by omega
      clear hB9 hq9
      refine lv_if_eq (tgt := 59) hx hb dL_law_49 (by decide) (fun c_49 => ?_) (fun c_49 => ?_)
      · exact absurd c_49 (by decide +kernel)
      · refine lv_aload_n hx hb dL_law_52 rfl (lv_at hl 1 rfl) ?_
        have hzz : x2 + 143 ≤ H.size := by omega
        refine lw_fd (x := x2) (As := [.ref x2]) ⟨hx, hb, hml, hown, hts⟩ (kL_isFounded l D d x2 (x2 + 1) b cB (rc_L (x2 + 2)) (rc_L (x2 + 69)) (lw_A (x2 + 2)) (lw_TA x2 H.size) N xs (lw_TL x2) (fun _ => 0) (lw_c0 (31 * tm + 7)) rc_s H.size (lw_tH hxs2 hbs hzz) hN31 (31 * tm + 7) (by omega) (lw_tg0 (31 * tm + 7))) (va_cwS 1 hts gL_law_L_isFounded rfl rfl rfl (by decide +kernel) ⟨Nat.le_of_ble_eq_true rfl, Nat.le_of_ble_eq_true rfl⟩) hE hxs2 hzz hbs (lw_Tb hg2 hzz) (lw_Tw hg2) hS rfl hl.1 (Nat.le_of_ble_eq_true rfl) dL_law_53 ⟨(by show 437 * tm + 358 + 72 ≤ 728564; omega), (by show 2600 * tm + 2094 + 492 ≤ 6915931; omega)⟩ rfl (fun r_ X2 H locs hp hB9 hz9 hq9 hS => ?_)
        obtain ⟨e1_, e2_2, e3_2, e4_2⟩ := hp
        subst e1_
        have hB2 : lw_1 D d b (x2, X2.1, X2.2.2.1 0 0) ((31 * tm + 7) + 122) X2.2.2.2 rc_s H := lw_X1 (sz := 0) hB9 e3_2.2.2.2.1 ((lw_Tw hg2).kept (hq9 _ (lw_Tw hg2).lt (fun z => by rcases z with z | z | z | z <;> (simp only at z; omega)))) ((lw_Tt hg2).kept (fun q z1 z2 => hq9 q z1 (fun z => by have := z2.1; have := z2.2; rcases z with z | z | z | z <;> omega)))
        have hB1 := hB1.kept (H1 := H) (fun q z1 z2 z3 => hq9 q z1 (fun z => by have z2 : x1 ≤ q := z2; have z3 : q < x1 + 136 := z3; rcases z with z | z | z | z <;> omega))
        have hG : lw_G s.heap.size b (x1, X1.1, X1.2.2.1 0 0) (x2, X2.1, X2.2.2.1 0 0) := ⟨hxs1, hxs2, hbs, Or.inl (by show x1 + 136 ≤ x2; omega)⟩
        have hB : lw_B D d b (x1, X1.1, X1.2.2.1 0 0) (x2, X2.1, X2.2.2.1 0 0) ((31 * tm + 7) + 122) ((31 * tm + 7) + 122) X1.2.2.2 rc_s X2.2.2.2 rc_s H := ⟨hB1, hB2⟩
        rw [e2_1] at hB e3_1 e4_1
        rw [e2_2] at hB
        refine lv_if_ne (tgt := 61) hx hb dL_law_56 (by decide) (fun c_56 => ?_) (fun c_56 => ?_)
        · refine lv_aload_n hx hb dL_law_61 rfl (lv_at hl 1 rfl) ?_
          refine lv_aload_n hx hb dL_law_62 rfl (lv_at hl 2 rfl) ?_
          refine lw_get (y1 := (x1, X1.1, X1.2.2.1 0 0)) (y2 := (x2, X2.1, X2.2.2.1 0 0)) hx hb hts inlX5 hown hE hB 2 (by decide) (hts (.fieldLink RL 24 "WaxrowLaw$Told" "draws" "I") (by decide +kernel)) rfl (v := .int (nI ((31 * tm + 7) + 122))) rfl dL_law_63 ?_
          refine lw_pd (y1 := (x2, X2.1, X2.2.2.1 0 0)) (y2 := (x1, X1.1, X1.2.2.1 0 0)) hx hb hts inlX5 hown hE hG.sw hB.sw hS (hts (.fieldLink RL 24 "WaxrowLaw$Told" "draws" "I") (by decide +kernel)) dL_law_66 (fun H locs hB hS hz => ?_)
          have hB := hB.sw
          refine lv_iconst (v := 0) hx hb dL_law_69 (by decide) ?_
          refine lv_istore (lv' := [(5, .int 0), (4, .ref (x1 + 1)), (3, .ref x2), (2, .ref x1), (1, .int (nI tm)), (0, .ref b)]) hx hb dL_law_70 hl (by decide) rfl (fun ls hl => ?_)
          refine law_rounds (y1 := (x1, X1.1, X1.2.2.1 0 0)) (y2 := (x2, X2.1, X2.2.2.1 0 0)) (cells := 437 * tm + 430) (slots := 2600 * tm + 2586) G hG ⟨(by show 437 * tm + 430 + 7 ≤ 728564; omega), (by show 2600 * tm + 2586 + 14 ≤ 6915931; omega)⟩ tm (fun H locs hS ls hl => ?_) 7 0 rfl ((31 * tm + 7) + 122) ((31 * tm + 7) + 122) 16 (tf_all xs N rc_s (31 * tm + 7)) rc_s rc_s (lf_all e3_1 e4_1) lw_V0 lw_V0 (by decide) (by omega) _ _ hB hS ls (lv_sub hl [0, 1, 2, 3, 4, 5] rfl)
          refine lv_iinc (v := nI (tm + 1)) (lv' := [(1, .int (nI (tm + 1))), (4, .ref (x1 + 1)), (3, .ref x2), (2, .ref x1), (0, .ref b)]) hx hb dL_law_679 hl (k := 3) rfl (nI_succ _).symm (by decide) rfl (fun ls hl => ?_)
          refine lv_goto (tgt := 2) hx hb dL_law_682 (by decide) ?_
          refine W.widen (k := 437 * (tm + 1)) (n := 2600 * (tm + 1)) (by omega) (by omega) ?_
          exact ih (tm + 1) (by omega) _ _ hS ls (lv_sub hl [0, 4] rfl)
        · exact absurd c_56 (by decide +kernel)
set_option maxHeartbeats 4000000 in
set_option maxRecDepth 100000 in
/-- THE LAW, from its entry -/
theorem whole_start {p : Program} {e : Env} {s : State} {m : MethodId} {below : List Frame} {meth : Method} {c : Code} (l : Launch) (hflags : l.flags = flags0) {b L : Nat} {xs : Nat → Int32} (hL : L ≤ 260) (C0 : lw_At p s m meth c b L xs) : W p l e room_1 s m #[Value.ref b] below meth c s.heap [] 0 0 (lw_Z below #[Value.ref b] s) (entryFrame m ([Value.ref b] : List Value).toArray 22) := by
  obtain ⟨hx, hb, hr, hml, hown, hts, hX, hbl, hlocks, hgv⟩ := id C0
  have hb : c.code = cL_law := hb
  have hown : s.vm.findClass RL = some m.cls := hown
  have hts2 : ∀ w ∈ wsL_law, w.before #[Value.ref b] s = true := fun w h => hts w (wsL_law_in w h)
  obtain ⟨D, d, cB, cW, hE⟩ := st_world hts hgv hX
  have hS : va_S (rg_A s.heap.size) s.heap s.heap [] := va_S.rf
  have hl := lv_entry ([.ref b]) (n := 22) (Nat.le_of_ble_eq_true rfl)
  rw [lg_entry_eq]
  generalize (lg_sl ([.ref b]) ++ List.replicate (22 - (lg_sl ([.ref b])).length) Slot.unset).toArray = ls at hl ⊢
  have hl : lv_has ls 22 [(0, .ref b)] := hl
  refine lv_iconst (v := 0) hx hb dL_law_0 (by decide) ?_
  refine lv_istore_n (lv' := [(1, .int 0), (0, .ref b)]) hx hb dL_law_1 rfl hl (by decide) rfl (fun ls hl => ?_)
  exact law_times (D := D) (d := d) (cB := cB) (cW := cW) (N := L) (xs := xs) ⟨hx, hb, hml, hown, hts2, hE, by omega⟩ hr hlocks hbl 3 0 rfl s.heap [] hS ls hl
