/-! THE LAW'S ROUND -/
def lw_N (p : Program) (s : State) (m : MethodId) (c0 : Code) (D : va_G) (d : hs_Dm) (cB cW : ClassId) (b N : Nat) (xs : Nat → Int32) : Prop := p.tables.exec = Jvm.exec ∧ c0.code = cL_law ∧ c0.maxLocals = 22 ∧ s.vm.findClass RL = some m.cls ∧ (∀ w ∈ wsL_law, w.before #[Value.ref b] s = true) ∧ lw_E D d cB cW b N xs s ∧ N < 2 ^ 31
section LRD
variable {p : Program} {l : Launch} {e : Env} {R : Room} {s : State} {m : MethodId} {args : Array Value} {below : List Frame} {meth : Method} {c0 : Code} {H : Heap} {locs : List Loc} {cells slots : Nat} {Q : State → Prop}
variable {cc : ByteArray} {pc : Nat} {ls : Array Slot} {rest : List Value} {D : va_G} {d : hs_Dm} {b N : Nat} {cB cW : ClassId} {xs : Nat → Int32} {y1 y2 : lw_Y} {k1 k2 : Nat} {σ1 τ1 σ2 τ2 : hs_St}
variable {y : MethodName} {bytes : ByteArray} {maxL nL na index : Nat} {ret : Option FieldType} {ws : List Cond} {rm : Room} {Ts : List Cond} {own : String} {As st : List Value}
/-- the first Waxrow is asked -/
theorem lw_rd {v : Int32} (S : CallFix p m c0 cc nL s args Ts own) (hM : wx_Mi l y ws rm D d (y1.1 + 1) (rc_L (y1.1 + 2)) (rc_L (y1.1 + 69)) σ1 (lw_A (y1.1 + 2)) (.ref (y1.1 + 1) :: As) (fun r τ => v = r ∧ σ1 = τ)) (cw : CallW R s args own RX4 index y bytes maxL ret ws rm 0 0 na) (hE : lw_E D d cB cW b N xs s) (hG : lw_G s.heap.size b y1 y2) (hB : lw_B D d b y1 y2 k1 k2 σ1 τ1 σ2 τ2 H) (hS : va_S (rg_A s.heap.size) s.heap H locs) (hn : As.length = na) (hsize : ls.size = nL) (hrest : (rest.map fun v => v.category).sum ≤ 8) (hdg : decode cc pc = .ok (.invokevirtual index, 3)) (hf : cells ≤ R.cells ∧ slots ≤ R.slots) (hst : st = As.reverse ++ .ref (y1.1 + 1) :: rest)
    (kk : ∀ (H1 : Heap) (locs1 : List Loc), lw_B D d b y1 y2 k1 k2 σ1 τ1 σ2 τ2 H1 → H.size ≤ H1.size → (∀ q : Nat, q < H.size → ¬ lw_A (y1.1 + 2) q → H1[q]? = H[q]?) → va_S (rg_A s.heap.size) s.heap H1 locs1 → W p l e R s m args below meth c0 H1 locs1 cells slots Q (F0 m (pc + 3) ls (.int v :: rest))) : W p l e R s m args below meth c0 H locs cells slots Q (F0 m pc ls st) := by
  refine lw_wx S hM cw hE hG hB hS hn hsize hrest hdg hf hst (fun r τ H1 locs1 hp hB1 hz hq hS1 => ?_)
  obtain ⟨e1, e2⟩ := hp
  subst e1 e2
  exact kk H1 locs1 hB1 hz hq hS1
theorem lw_top {k : Nat} {σ τ : hs_St} {y : lw_Y} (h : lw_1 D d b y k σ τ H) : y.1 + 136 ≤ H.size := by
  have h2 := (h.2.2.2.1 10 4 (by unfold hs_ix; omega)).lt
  have h2 : y.1 + 69 + (62 + 4) < H.size := h2
  omega
end LRD
theorem lg_cmp_self (x : Int64) : lg_cmp x x = 0 := by simp [lg_cmp, Int64.lt_irrefl]
theorem lp_ready {σ : hs_St} {f : Nat} (h1 : ¬ sp_ofF σ f 7 < 30) (h2 : sp_ofF σ f 8 = 5) : ¬ sp_isReady σ f = 0 := by
  have h3 : σ 9 f 7 = 5 := h2
  unfold sp_isReady
  rw [if_pos (lp_six (lp_done h1)), if_pos h3]
  decide
theorem lp_cons {σ : hs_St} {F q : Nat} (h : sp_ofP σ F q 6 = 1) : ¬ σ 4 q 5 = 0 := fun z => by
  rw [show sp_ofP σ F q 6 = 0 from if_pos z] at h
  exact absurd h (by decide)
theorem lp_nlt {x y : Int32} (h : y ≤ x) (z : x < y) : False := by
  rw [Int32.le_iff_toInt_le] at h
  rw [Int32.lt_iff_toInt_lt] at z
  omega
theorem lp_lt {x y : Int32} (h : ¬ y ≤ x) : x < y := by
  rw [Int32.le_iff_toInt_le] at h
  rw [Int32.lt_iff_toInt_lt]
  omega
set_option maxHeartbeats 4000000 in
set_option maxRecDepth 100000 in
/-- one Waxrow: work -/
theorem law_work {p : Program} {l : Launch} {e : Env} {s : State} {m : MethodId} {below : List Frame} {meth : Method} {c0 : Code} {Q : State → Prop} {cells slots : Nat} {D : va_G} {d : hs_Dm} {cB cW : ClassId} {b N : Nat} {xs : Nat → Int32} {y1 y2 : lw_Y} (G : lw_N p s m c0 D d cB cW b N xs) (hG : lw_G s.heap.size b y1 y2) (hcs : cells ≤ room_1.cells ∧ slots ≤ room_1.slots) {k1 k2 dd : Nat} {σ1 τ1 σ2 τ2 : hs_St} (hI : lw_I σ1 dd) (a2 a3 a4 a14 : Nat) (i15 i16 : Int32) (tm kx vi wa f pp r hh : Nat) (hf : f < 5) (hr : r < 3) (hhh : hh ≤ 9) (Fr : Heap → Prop) (hFr : ∀ H H1 : Heap, Fr H → H.size ≤ H1.size → (∀ q : Nat, q < H.size → ¬ lw_A (y1.1 + 2) q → H1[q]? = H[q]?) → Fr H1) {H : Heap} {locs : List Loc} (hB : lw_B D d b y1 y2 k1 k2 σ1 τ1 σ2 τ2 H) (h9 : Fr H) (hS : va_S (rg_A s.heap.size) s.heap H locs) {ls : Array Slot} (hl : lv_has ls 22 [(17, .ref (y1.1 + 1)), (16, .int i16), (15, .int i15), (14, .ref a14), (11, .int (nI hh)), (10, .int (nI r)), (9, .int (nI pp)), (8, .int (nI f)), (7, .int (nI wa)), (6, .int (nI vi)), (5, .int (nI kx)), (4, .ref a4), (3, .ref a3), (2, .ref a2), (1, .int (nI tm)), (0, .ref b)]) (kK : ∀ (H : Heap) (locs : List Loc), lw_B D d b y1 y2 k1 k2 (lw_wk σ1 hh) τ1 σ2 τ2 H → Fr H → va_S (rg_A s.heap.size) s.heap H locs → ∀ ls : Array Slot, lv_has ls 22 [(17, .ref (y1.1 + 1)), (16, .int i16), (15, .int i15), (14, .ref a14), (11, .int (nI hh)), (10, .int (nI r)), (9, .int (nI pp)), (8, .int (nI f)), (7, .int (nI wa)), (6, .int (nI vi)), (5, .int (nI kx)), (4, .ref a4), (3, .ref a3), (2, .ref a2), (1, .int (nI tm)), (0, .ref b)] → W p l e room_1 s m #[Value.ref b] below meth c0 H locs cells slots Q (F0 m 318 ls [])) : W p l e room_1 s m #[Value.ref b] below meth c0 H locs cells slots Q (F0 m 284 ls []) := by
  obtain ⟨hx, hb, hml, hown, hts, hE, hN31⟩ := id G
  refine lv_aload hx hb dL_law_284 (lv_at hl 0 rfl) ?_
  refine lv_iconst (v := 4) hx hb dL_law_286 (by decide) ?_
  refine lv_iconst (v := 2) hx hb dL_law_287 (by decide) ?_
  refine lw_rd (v := sp_ofF σ1 4 2) (As := [.int 4, .int 2]) ⟨hx, hb, hml, hown, hts⟩ (kX4_ofFigure_2 l D d (rc_L (y1.1 + 2)) σ1 (lw_A (y1.1 + 2)) (y1.1 + 1) (rc_L (y1.1 + 69)) (lw_wA _) 4 5 3 hI.1 4 (by omega)) (cwV 2 hts gL_law_X4_ofFigure rfl rfl rfl (by decide +kernel) ⟨Nat.le_of_ble_eq_true rfl, Nat.le_of_ble_eq_true rfl⟩) hE hG hB hS rfl hl.1 (Nat.le_of_ble_eq_true rfl) dL_law_288 hcs rfl (fun H locs hB hz hq hS => ?_)
  have h9 := hFr _ _ h9 hz hq
  refine lv_bipush (v := 6) hx hb dL_law_291 (by decide) ?_
  refine lv_icmp_ge (tgt := 318) hx hb dL_law_293 (by decide) (fun c_293 => ?_) (fun c_293 => ?_)
  · exact kK _ _ (by rw [show lw_wk σ1 hh = σ1 from (if_neg (fun z => lp_nlt c_293 z.1))]; exact hB) h9 hS ls (lv_sub hl [0, 1, 2, 3, 4, 5, 6, 7, 8, 9, 10, 11, 12, 13, 14, 15] rfl)
  · refine lv_aload hx hb dL_law_296 (lv_at hl 0 rfl) ?_
    refine lv_iconst (v := 4) hx hb dL_law_298 (by decide) ?_
    refine lv_bipush (v := 8) hx hb dL_law_299 (by decide) ?_
    refine lw_rd (v := sp_ofF σ1 4 8) (As := [.int 4, .int 8]) ⟨hx, hb, hml, hown, hts⟩ (kX4_ofFigure_8 l D d (rc_L (y1.1 + 2)) σ1 (lw_A (y1.1 + 2)) (y1.1 + 1) (rc_L (y1.1 + 69)) (lw_wA _) 4 5 3 hI.1 4 (by omega)) (cwV 2 hts gL_law_X4_ofFigure rfl rfl rfl (by decide +kernel) ⟨Nat.le_of_ble_eq_true rfl, Nat.le_of_ble_eq_true rfl⟩) hE hG hB hS rfl hl.1 (Nat.le_of_ble_eq_true rfl) dL_law_301 hcs rfl (fun H locs hB hz hq hS => ?_)
    have h9 := hFr _ _ h9 hz hq
    refine lv_bipush (v := 7) hx hb dL_law_304 (by decide) ?_
    refine lv_icmp_eq (tgt := 318) hx hb dL_law_306 (by decide) (fun c_306 => ?_) (fun c_306 => ?_)
    · exact kK _ _ (by rw [show lw_wk σ1 hh = σ1 from (if_neg (fun z => z.2 c_306))]; exact hB) h9 hS ls (lv_sub hl [0, 1, 2, 3, 4, 5, 6, 7, 8, 9, 10, 11, 12, 13, 14, 15] rfl)
    · refine lv_aload hx hb dL_law_309 (lv_at hl 0 rfl) ?_
      refine lv_iconst (v := 4) hx hb dL_law_311 (by decide) ?_
      refine lv_iload hx hb dL_law_312 (lv_at hl 4 rfl) ?_
      refine lw_wx (As := [.int 4, .int (nI hh)]) ⟨hx, hb, hml, hown, hts⟩ (kX4_work l D d (rc_L (y1.1 + 2)) σ1 (lw_A (y1.1 + 2)) (y1.1 + 1) (rc_L (y1.1 + 69)) (lw_wA _) 4 5 3 hI.1 4 (by decide) (nI hh) (nI_pos (by omega)) (nI_le (b := 9) hhh (by decide)) c_293 c_306 (by rw [lw_hands hI]; exact nI_nlt (a := 12) (b := hh) (by omega) (by decide))) (cwV 2 hts gL_law_X4_work rfl rfl rfl (by decide +kernel) ⟨Nat.le_of_ble_eq_true rfl, Nat.le_of_ble_eq_true rfl⟩) hE hG hB hS rfl hl.1 (Nat.le_of_ble_eq_true rfl) dL_law_314 hcs rfl (fun r_ τ_ H locs hp hB hz hq hS => ?_)
      obtain ⟨e1_, e2_⟩ := hp
      subst e2_
      have h9 := hFr _ _ h9 hz hq
      refine lv_pop hx hb dL_law_317 rfl ?_
      exact kK _ _ (by rw [show lw_wk σ1 hh = (hs_sg σ1 9 4 4 (nI hh)) from (if_pos ⟨lp_lt c_293, c_306⟩)]; exact hB) h9 hS ls (lv_sub hl [0, 1, 2, 3, 4, 5, 6, 7, 8, 9, 10, 11, 12, 13, 14, 15] rfl)
set_option maxHeartbeats 4000000 in
set_option maxRecDepth 100000 in
/-- one Waxrow: show -/
theorem law_show {p : Program} {l : Launch} {e : Env} {s : State} {m : MethodId} {below : List Frame} {meth : Method} {c0 : Code} {Q : State → Prop} {cells slots : Nat} {D : va_G} {d : hs_Dm} {cB cW : ClassId} {b N : Nat} {xs : Nat → Int32} {y1 y2 : lw_Y} (G : lw_N p s m c0 D d cB cW b N xs) (hG : lw_G s.heap.size b y1 y2) (hcs : cells ≤ room_1.cells ∧ slots ≤ room_1.slots) {k1 k2 dd : Nat} {σ1 τ1 σ2 τ2 : hs_St} (hI : lw_I σ1 dd) (a2 a3 a4 a14 : Nat) (i15 i16 : Int32) (tm kx vi wa f pp r hh : Nat) (hf : f < 5) (hr : r < 3) (hhh : hh ≤ 9) (Fr : Heap → Prop) (hFr : ∀ H H1 : Heap, Fr H → H.size ≤ H1.size → (∀ q : Nat, q < H.size → ¬ lw_A (y1.1 + 2) q → H1[q]? = H[q]?) → Fr H1) {H : Heap} {locs : List Loc} (hB : lw_B D d b y1 y2 k1 k2 σ1 τ1 σ2 τ2 H) (h9 : Fr H) (hS : va_S (rg_A s.heap.size) s.heap H locs) {ls : Array Slot} (hl : lv_has ls 22 [(17, .ref (y1.1 + 1)), (16, .int i16), (15, .int i15), (14, .ref a14), (11, .int (nI hh)), (10, .int (nI r)), (9, .int (nI pp)), (8, .int (nI f)), (7, .int (nI wa)), (6, .int (nI vi)), (5, .int (nI kx)), (4, .ref a4), (3, .ref a3), (2, .ref a2), (1, .int (nI tm)), (0, .ref b)]) (kK : ∀ (H : Heap) (locs : List Loc), lw_B D d b y1 y2 k1 k2 (lw_sh σ1 f r) τ1 σ2 τ2 H → Fr H → va_S (rg_A s.heap.size) s.heap H locs → ∀ ls : Array Slot, lv_has ls 22 [(17, .ref (y1.1 + 1)), (16, .int i16), (15, .int i15), (14, .ref a14), (11, .int (nI hh)), (10, .int (nI r)), (9, .int (nI pp)), (8, .int (nI f)), (7, .int (nI wa)), (6, .int (nI vi)), (5, .int (nI kx)), (4, .ref a4), (3, .ref a3), (2, .ref a2), (1, .int (nI tm)), (0, .ref b)] → W p l e room_1 s m #[Value.ref b] below meth c0 H locs cells slots Q (F0 m 284 ls [])) : W p l e room_1 s m #[Value.ref b] below meth c0 H locs cells slots Q (F0 m 187 ls []) := by
  obtain ⟨hx, hb, hml, hown, hts, hE, hN31⟩ := id G
  refine lv_aload hx hb dL_law_187 (lv_at hl 0 rfl) ?_
  refine lv_iload hx hb dL_law_189 (lv_at hl 7 rfl) ?_
  refine lv_bipush (v := 7) hx hb dL_law_191 (by decide) ?_
  refine lw_rd (v := sp_ofF σ1 f 7) (As := [.int (nI f), .int 7]) ⟨hx, hb, hml, hown, hts⟩ (kX4_ofFigure_7 l D d (rc_L (y1.1 + 2)) σ1 (lw_A (y1.1 + 2)) (y1.1 + 1) (rc_L (y1.1 + 69)) (lw_wA _) 4 5 3 hI.1 f (by omega)) (cwV 2 hts gL_law_X4_ofFigure rfl rfl rfl (by decide +kernel) ⟨Nat.le_of_ble_eq_true rfl, Nat.le_of_ble_eq_true rfl⟩) hE hG hB hS rfl hl.1 (Nat.le_of_ble_eq_true rfl) dL_law_193 hcs rfl (fun H locs hB hz hq hS => ?_)
  have h9 := hFr _ _ h9 hz hq
  refine lv_bipush (v := 30) hx hb dL_law_196 (by decide) ?_
  refine lv_icmp_lt (tgt := 266) hx hb dL_law_198 (by decide) (fun c_198 => ?_) (fun c_198 => ?_)
  · refine lv_iconst (v := 0) hx hb dL_law_266 (by decide) ?_
    refine lv_istore (lv' := [(18, .int 0), (17, .ref (y1.1 + 1)), (16, .int i16), (15, .int i15), (14, .ref a14), (11, .int (nI hh)), (10, .int (nI r)), (9, .int (nI pp)), (8, .int (nI f)), (7, .int (nI wa)), (6, .int (nI vi)), (5, .int (nI kx)), (4, .ref a4), (3, .ref a3), (2, .ref a2), (1, .int (nI tm)), (0, .ref b)]) hx hb dL_law_267 hl (by decide) rfl (fun ls hl => ?_)
    refine lv_iload hx hb dL_law_269 (lv_at hl 0 rfl) ?_
    refine lv_if_eq (tgt := 284) hx hb dL_law_271 (by decide) (fun c_271 => ?_) (fun c_271 => ?_)
    · exact kK _ _ (by rw [show lw_sh σ1 f r = σ1 from (if_neg (fun z => z.1 c_198))]; exact hB) h9 hS ls (lv_sub hl [1, 2, 3, 4, 5, 6, 7, 8, 9, 10, 11, 12, 13, 14, 15, 16] rfl)
    · exact absurd (by decide +kernel) c_271
  · refine lv_aload hx hb dL_law_201 (lv_at hl 0 rfl) ?_
    refine lv_iload hx hb dL_law_203 (lv_at hl 7 rfl) ?_
    refine lv_bipush (v := 8) hx hb dL_law_205 (by decide) ?_
    refine lw_rd (v := sp_ofF σ1 f 8) (As := [.int (nI f), .int 8]) ⟨hx, hb, hml, hown, hts⟩ (kX4_ofFigure_8 l D d (rc_L (y1.1 + 2)) σ1 (lw_A (y1.1 + 2)) (y1.1 + 1) (rc_L (y1.1 + 69)) (lw_wA _) 4 5 3 hI.1 f (by omega)) (cwV 2 hts gL_law_X4_ofFigure rfl rfl rfl (by decide +kernel) ⟨Nat.le_of_ble_eq_true rfl, Nat.le_of_ble_eq_true rfl⟩) hE hG hB hS rfl hl.1 (Nat.le_of_ble_eq_true rfl) dL_law_207 hcs rfl (fun H locs hB hz hq hS => ?_)
    have h9 := hFr _ _ h9 hz hq
    refine lv_iconst (v := 5) hx hb dL_law_210 (by decide) ?_
    refine lv_icmp_ne (tgt := 266) hx hb dL_law_211 (by decide) (fun c_211 => ?_) (fun c_211 => ?_)
    · refine lv_iconst (v := 0) hx hb dL_law_266 (by decide) ?_
      refine lv_istore (lv' := [(18, .int 0), (17, .ref (y1.1 + 1)), (16, .int i16), (15, .int i15), (14, .ref a14), (11, .int (nI hh)), (10, .int (nI r)), (9, .int (nI pp)), (8, .int (nI f)), (7, .int (nI wa)), (6, .int (nI vi)), (5, .int (nI kx)), (4, .ref a4), (3, .ref a3), (2, .ref a2), (1, .int (nI tm)), (0, .ref b)]) hx hb dL_law_267 hl (by decide) rfl (fun ls hl => ?_)
      refine lv_iload hx hb dL_law_269 (lv_at hl 0 rfl) ?_
      refine lv_if_eq (tgt := 284) hx hb dL_law_271 (by decide) (fun c_271 => ?_) (fun c_271 => ?_)
      · exact kK _ _ (by rw [show lw_sh σ1 f r = σ1 from (if_neg (fun z => c_211 z.2.1))]; exact hB) h9 hS ls (lv_sub hl [1, 2, 3, 4, 5, 6, 7, 8, 9, 10, 11, 12, 13, 14, 15, 16] rfl)
      · exact absurd (by decide +kernel) c_271
    · refine lv_aload hx hb dL_law_214 (lv_at hl 0 rfl) ?_
      refine lv_aload hx hb dL_law_216 (lv_at hl 0 rfl) ?_
      refine lv_iload hx hb dL_law_218 (lv_at hl 7 rfl) ?_
      refine lv_iconst (v := 0) hx hb dL_law_220 (by decide) ?_
      refine lw_rd (v := sp_ofF σ1 f 0) (As := [.int (nI f), .int 0]) ⟨hx, hb, hml, hown, hts⟩ (kX4_ofFigure_0 l D d (rc_L (y1.1 + 2)) σ1 (lw_A (y1.1 + 2)) (y1.1 + 1) (rc_L (y1.1 + 69)) (lw_wA _) 4 5 3 hI.1 f (by omega)) (cwV 2 hts gL_law_X4_ofFigure rfl rfl rfl (by decide +kernel) ⟨Nat.le_of_ble_eq_true rfl, Nat.le_of_ble_eq_true rfl⟩) hE hG hB hS rfl hl.1 (Nat.le_of_ble_eq_true rfl) dL_law_221 hcs rfl (fun H locs hB hz hq hS => ?_)
      have h9 := hFr _ _ h9 hz hq
      rw [show sp_ofF σ1 f 0 = nI (σ1 9 f 0).toNatClampNeg from rfl]
      refine lv_bipush (v := 6) hx hb dL_law_224 (by decide) ?_
      refine lw_rd (v := sp_ofP σ1 5 ((σ1 9 f 0).toNatClampNeg) 6) (As := [.int (nI ((σ1 9 f 0).toNatClampNeg)), .int 6]) ⟨hx, hb, hml, hown, hts⟩ (kX4_ofPerson_6 l D d (rc_L (y1.1 + 2)) σ1 (lw_A (y1.1 + 2)) (y1.1 + 1) (rc_L (y1.1 + 69)) (lw_wA _) 4 5 3 hI.1 ((σ1 9 f 0).toNatClampNeg) (hI.2.2.2.1 f hf).1) (cwV 2 hts gL_law_X4_ofPerson rfl rfl rfl (by decide +kernel) ⟨Nat.le_of_ble_eq_true rfl, Nat.le_of_ble_eq_true rfl⟩) hE hG hB hS rfl hl.1 (Nat.le_of_ble_eq_true rfl) dL_law_226 hcs rfl (fun H locs hB hz hq hS => ?_)
      have h9 := hFr _ _ h9 hz hq
      refine lv_iconst (v := 1) hx hb dL_law_229 (by decide) ?_
      refine lv_icmp_ne (tgt := 266) hx hb dL_law_230 (by decide) (fun c_230 => ?_) (fun c_230 => ?_)
      · refine lv_iconst (v := 0) hx hb dL_law_266 (by decide) ?_
        refine lv_istore (lv' := [(18, .int 0), (17, .ref (y1.1 + 1)), (16, .int i16), (15, .int i15), (14, .ref a14), (11, .int (nI hh)), (10, .int (nI r)), (9, .int (nI pp)), (8, .int (nI f)), (7, .int (nI wa)), (6, .int (nI vi)), (5, .int (nI kx)), (4, .ref a4), (3, .ref a3), (2, .ref a2), (1, .int (nI tm)), (0, .ref b)]) hx hb dL_law_267 hl (by decide) rfl (fun ls hl => ?_)
        refine lv_iload hx hb dL_law_269 (lv_at hl 0 rfl) ?_
        refine lv_if_eq (tgt := 284) hx hb dL_law_271 (by decide) (fun c_271 => ?_) (fun c_271 => ?_)
        · exact kK _ _ (by rw [show lw_sh σ1 f r = σ1 from (if_neg (fun z => c_230 z.2.2.1))]; exact hB) h9 hS ls (lv_sub hl [1, 2, 3, 4, 5, 6, 7, 8, 9, 10, 11, 12, 13, 14, 15, 16] rfl)
        · exact absurd (by decide +kernel) c_271
      · refine lv_aload hx hb dL_law_233 (lv_at hl 0 rfl) ?_
        refine lv_aload hx hb dL_law_235 (lv_at hl 0 rfl) ?_
        refine lv_iload hx hb dL_law_237 (lv_at hl 7 rfl) ?_
        refine lv_iconst (v := 0) hx hb dL_law_239 (by decide) ?_
        refine lw_rd (v := sp_ofF σ1 f 0) (As := [.int (nI f), .int 0]) ⟨hx, hb, hml, hown, hts⟩ (kX4_ofFigure_0 l D d (rc_L (y1.1 + 2)) σ1 (lw_A (y1.1 + 2)) (y1.1 + 1) (rc_L (y1.1 + 69)) (lw_wA _) 4 5 3 hI.1 f (by omega)) (cwV 2 hts gL_law_X4_ofFigure rfl rfl rfl (by decide +kernel) ⟨Nat.le_of_ble_eq_true rfl, Nat.le_of_ble_eq_true rfl⟩) hE hG hB hS rfl hl.1 (Nat.le_of_ble_eq_true rfl) dL_law_240 hcs rfl (fun H locs hB hz hq hS => ?_)
        have h9 := hFr _ _ h9 hz hq
        rw [show sp_ofF σ1 f 0 = nI (σ1 9 f 0).toNatClampNeg from rfl]
        refine lv_bipush (v := 10) hx hb dL_law_243 (by decide) ?_
        refine lw_rd (v := sp_ofP σ1 5 ((σ1 9 f 0).toNatClampNeg) 10) (As := [.int (nI ((σ1 9 f 0).toNatClampNeg)), .int 10]) ⟨hx, hb, hml, hown, hts⟩ (kX4_ofPerson_10 l D d (rc_L (y1.1 + 2)) σ1 (lw_A (y1.1 + 2)) (y1.1 + 1) (rc_L (y1.1 + 69)) (lw_wA _) 4 5 3 hI.1 ((σ1 9 f 0).toNatClampNeg) (hI.2.2.2.1 f hf).1) (cwV 2 hts gL_law_X4_ofPerson rfl rfl rfl (by decide +kernel) ⟨Nat.le_of_ble_eq_true rfl, Nat.le_of_ble_eq_true rfl⟩) hE hG hB hS rfl hl.1 (Nat.le_of_ble_eq_true rfl) dL_law_245 hcs rfl (fun H locs hB hz hq hS => ?_)
        have h9 := hFr _ _ h9 hz hq
        refine lv_if_ge (tgt := 266) hx hb dL_law_248 (by decide) (fun c_248 => ?_) (fun c_248 => ?_)
        · refine lv_iconst (v := 0) hx hb dL_law_266 (by decide) ?_
          refine lv_istore (lv' := [(18, .int 0), (17, .ref (y1.1 + 1)), (16, .int i16), (15, .int i15), (14, .ref a14), (11, .int (nI hh)), (10, .int (nI r)), (9, .int (nI pp)), (8, .int (nI f)), (7, .int (nI wa)), (6, .int (nI vi)), (5, .int (nI kx)), (4, .ref a4), (3, .ref a3), (2, .ref a2), (1, .int (nI tm)), (0, .ref b)]) hx hb dL_law_267 hl (by decide) rfl (fun ls hl => ?_)
          refine lv_iload hx hb dL_law_269 (lv_at hl 0 rfl) ?_
          refine lv_if_eq (tgt := 284) hx hb dL_law_271 (by decide) (fun c_271 => ?_) (fun c_271 => ?_)
          · exact kK _ _ (by rw [show lw_sh σ1 f r = σ1 from (if_neg (fun z => z.2.2.2.1 c_248))]; exact hB) h9 hS ls (lv_sub hl [1, 2, 3, 4, 5, 6, 7, 8, 9, 10, 11, 12, 13, 14, 15, 16] rfl)
          · exact absurd (by decide +kernel) c_271
        · refine lv_aload hx hb dL_law_251 (lv_at hl 0 rfl) ?_
          refine lv_iload hx hb dL_law_253 (lv_at hl 5 rfl) ?_
          refine lv_iconst (v := 2) hx hb dL_law_255 (by decide) ?_
          refine lw_rd (v := sp_ofR σ1 5 r 2) (As := [.int (nI r), .int 2]) ⟨hx, hb, hml, hown, hts⟩ (kX4_ofRoom_2 l D d (rc_L (y1.1 + 2)) σ1 (lw_A (y1.1 + 2)) (y1.1 + 1) (rc_L (y1.1 + 69)) (lw_wA _) 4 5 3 hI.1 r (by omega)) (cwV 2 hts gL_law_X4_ofRoom rfl rfl rfl (by decide +kernel) ⟨Nat.le_of_ble_eq_true rfl, Nat.le_of_ble_eq_true rfl⟩) hE hG hB hS rfl hl.1 (Nat.le_of_ble_eq_true rfl) dL_law_256 hcs rfl (fun H locs hB hz hq hS => ?_)
          have h9 := hFr _ _ h9 hz hq
          refine lv_if_le (tgt := 266) hx hb dL_law_259 (by decide) (fun c_259 => ?_) (fun c_259 => ?_)
          · refine lv_iconst (v := 0) hx hb dL_law_266 (by decide) ?_
            refine lv_istore (lv' := [(18, .int 0), (17, .ref (y1.1 + 1)), (16, .int i16), (15, .int i15), (14, .ref a14), (11, .int (nI hh)), (10, .int (nI r)), (9, .int (nI pp)), (8, .int (nI f)), (7, .int (nI wa)), (6, .int (nI vi)), (5, .int (nI kx)), (4, .ref a4), (3, .ref a3), (2, .ref a2), (1, .int (nI tm)), (0, .ref b)]) hx hb dL_law_267 hl (by decide) rfl (fun ls hl => ?_)
            refine lv_iload hx hb dL_law_269 (lv_at hl 0 rfl) ?_
            refine lv_if_eq (tgt := 284) hx hb dL_law_271 (by decide) (fun c_271 => ?_) (fun c_271 => ?_)
            · exact kK _ _ (by rw [show lw_sh σ1 f r = σ1 from (if_neg (fun z => z.2.2.2.2 c_259))]; exact hB) h9 hS ls (lv_sub hl [1, 2, 3, 4, 5, 6, 7, 8, 9, 10, 11, 12, 13, 14, 15, 16] rfl)
            · exact absurd (by decide +kernel) c_271
          · refine lv_iconst (v := 1) hx hb dL_law_262 (by decide) ?_
            refine lv_goto (tgt := 267) hx hb dL_law_263 (by decide) ?_
            refine lv_istore (lv' := [(18, .int 1), (17, .ref (y1.1 + 1)), (16, .int i16), (15, .int i15), (14, .ref a14), (11, .int (nI hh)), (10, .int (nI r)), (9, .int (nI pp)), (8, .int (nI f)), (7, .int (nI wa)), (6, .int (nI vi)), (5, .int (nI kx)), (4, .ref a4), (3, .ref a3), (2, .ref a2), (1, .int (nI tm)), (0, .ref b)]) hx hb dL_law_267 hl (by decide) rfl (fun ls hl => ?_)
            refine lv_iload hx hb dL_law_269 (lv_at hl 0 rfl) ?_
            refine lv_if_eq (tgt := 284) hx hb dL_law_271 (by decide) (fun c_271 => ?_) (fun c_271 => ?_)
            · exact absurd c_271 (by decide +kernel)
            · refine lv_aload hx hb dL_law_274 (lv_at hl 1 rfl) ?_
              refine lv_iload hx hb dL_law_276 (lv_at hl 8 rfl) ?_
              refine lv_iload hx hb dL_law_278 (lv_at hl 6 rfl) ?_
              refine lw_wx (As := [.int (nI f), .int (nI r)]) ⟨hx, hb, hml, hown, hts⟩ (kX4_show l D d (rc_L (y1.1 + 2)) σ1 (lw_A (y1.1 + 2)) (y1.1 + 1) (rc_L (y1.1 + 69)) (lw_wA _) 4 5 3 hI.1 f hf r hr (lp_ready c_198 c_211) (lp_cons c_230) c_198 (lp_free (by decide) (hI.2.2.2.2.2.2.2.2.2 r hr) c_259) (lp_no (by decide) c_248)) (cwV 2 hts gL_law_X4_show rfl rfl rfl (by decide +kernel) ⟨Nat.le_of_ble_eq_true rfl, Nat.le_of_ble_eq_true rfl⟩) hE hG hB hS rfl hl.1 (Nat.le_of_ble_eq_true rfl) dL_law_280 hcs rfl (fun r_ τ_ H locs hp hB hz hq hS => ?_)
              obtain ⟨e1_, e2_⟩ := hp
              subst e1_
              have h9 := hFr _ _ h9 hz hq
              refine lv_pop hx hb dL_law_283 rfl ?_
              exact kK _ _ (by rw [show lw_sh σ1 f r = (hs_sg σ1 9 f 7 (nI r)) from (if_pos ⟨c_198, c_211, c_230, c_248, c_259⟩)]; exact hB) h9 hS ls (lv_sub hl [1, 2, 3, 4, 5, 6, 7, 8, 9, 10, 11, 12, 13, 14, 15, 16] rfl)
set_option maxHeartbeats 4000000 in
set_option maxRecDepth 100000 in
/-- both Waxrows: show and work -/
theorem law_pair {p : Program} {l : Launch} {e : Env} {s : State} {m : MethodId} {below : List Frame} {meth : Method} {c0 : Code} {Q : State → Prop} {cells slots : Nat} {D : va_G} {d : hs_Dm} {cB cW : ClassId} {b N : Nat} {xs : Nat → Int32} {y1 y2 : lw_Y} (G : lw_N p s m c0 D d cB cW b N xs) (hG : lw_G s.heap.size b y1 y2) (hcs : cells + 1 ≤ room_1.cells ∧ slots + 2 ≤ room_1.slots) {k1 k2 dd : Nat} {σ τ1 τ2 : hs_St} (hI : lw_I σ dd) (tm kx vi wa f pp r hh : Nat) (hvi : vi ≤ 2000) (hwa : wa ≤ 40) (hf : f < 5) (hpp : pp < 4) (hr : r < 3) (hhh : hh ≤ 9) {H : Heap} {locs : List Loc} (hB : lw_B D d b y1 y2 k1 k2 σ τ1 σ τ2 H) (hS : va_S (rg_A s.heap.size) s.heap H locs) {ls : Array Slot} (hl : lv_has ls 22 [(11, .int (nI hh)), (10, .int (nI r)), (9, .int (nI pp)), (8, .int (nI f)), (7, .int (nI wa)), (6, .int (nI vi)), (5, .int (nI kx)), (4, .ref (y1.1 + 1)), (3, .ref y2.1), (2, .ref y1.1), (1, .int (nI tm)), (0, .ref b)]) (kK : ∀ (H : Heap) (locs : List Loc), lw_B D d b y1 y2 k1 k2 (lw_wk (lw_sh σ f r) hh) τ1 (lw_wk (lw_sh σ f r) hh) τ2 H → va_S (rg_A s.heap.size) s.heap H locs → ∀ ls : Array Slot, lv_has ls 22 [(11, .int (nI hh)), (10, .int (nI r)), (9, .int (nI pp)), (8, .int (nI f)), (7, .int (nI wa)), (6, .int (nI vi)), (5, .int (nI kx)), (4, .ref (y1.1 + 1)), (3, .ref y2.1), (2, .ref y1.1), (1, .int (nI tm)), (0, .ref b)] → W p l e room_1 s m #[Value.ref b] below meth c0 H locs (cells + 1) (slots + 2) Q (F0 m 324 ls [])) : W p l e room_1 s m #[Value.ref b] below meth c0 H locs cells slots Q (F0 m 147 ls []) := by
  obtain ⟨hx, hb, hml, hown, hts, hE, hN31⟩ := id G
  have hcs2 : cells + 1 ≤ room_1.cells ∧ slots + 2 ≤ room_1.slots := hcs
  have hB0 := hB
  refine lv_iconst (v := 2) hx hb dL_law_147 (by decide) ?_
  refine lw_new hx hb hown (hts (.classLink RL 33 RX4) (by decide +kernel)) hE hB hS (by decide) (N' := 2) rfl (by decide) hcs.1 hcs.2 dL_law_148 (fun a14 H haz ha hB hz hS => ?_)
  have haz : y1.1 + 136 ≤ a14 ∧ y2.1 + 136 ≤ a14 := ⟨Nat.le_trans (lw_top hB0.1) haz, Nat.le_trans (lw_top hB0.2) haz⟩
  refine lv_dup hx hb dL_law_151 rfl ?_
  refine lv_iconst (v := 0) hx hb dL_law_152 (by decide) ?_
  refine lv_aload hx hb dL_law_153 (lv_at hl 7 rfl) ?_
  refine lw_ast hx hb hE hG hB hS ha haz hB.1.2.1 (i := 0) (by unfold vp_in; decide) dL_law_155 (fun H locs ha hB hz hS => ?_)
  rw [show (0 : Int32).toNatClampNeg = 0 from by decide] at ha
  refine lv_dup hx hb dL_law_156 rfl ?_
  refine lv_iconst (v := 1) hx hb dL_law_157 (by decide) ?_
  refine lv_aload_n hx hb dL_law_158 rfl (lv_at hl 8 rfl) ?_
  refine lw_get (y1 := y2) (y2 := y1) hx hb hts inlX5 hown hE hB.sw 0 (by decide) (hts (.fieldLink RL 14 "WaxrowLaw$Told" "m" "LWaxrow;") (by decide +kernel)) rfl (v := .ref (y2.1 + 1)) rfl dL_law_159 ?_
  refine lw_ast hx hb hE hG hB hS ha haz hB.2.2.1 (i := 1) (by unfold vp_in; decide) dL_law_162 (fun H locs ha hB hz hS => ?_)
  rw [show (1 : Int32).toNatClampNeg = 1 from by decide] at ha
  refine lv_astore (lv' := [(14, .ref a14), (11, .int (nI hh)), (10, .int (nI r)), (9, .int (nI pp)), (8, .int (nI f)), (7, .int (nI wa)), (6, .int (nI vi)), (5, .int (nI kx)), (4, .ref (y1.1 + 1)), (3, .ref y2.1), (2, .ref y1.1), (1, .int (nI tm)), (0, .ref b)]) hx hb dL_law_163 hl (by decide) rfl (fun ls hl => ?_)
  refine lv_aload hx hb dL_law_165 (lv_at hl 0 rfl) ?_
  refine lw_len hx hb hE ha dL_law_167 ?_
  rw [show nI 2 = (2 : Int32) from rfl]
  refine lv_istore (lv' := [(15, .int 2), (14, .ref a14), (11, .int (nI hh)), (10, .int (nI r)), (9, .int (nI pp)), (8, .int (nI f)), (7, .int (nI wa)), (6, .int (nI vi)), (5, .int (nI kx)), (4, .ref (y1.1 + 1)), (3, .ref y2.1), (2, .ref y1.1), (1, .int (nI tm)), (0, .ref b)]) hx hb dL_law_168 hl (by decide) rfl (fun ls hl => ?_)
  refine lv_iconst (v := 0) hx hb dL_law_170 (by decide) ?_
  refine lv_istore (lv' := [(16, .int 0), (15, .int 2), (14, .ref a14), (11, .int (nI hh)), (10, .int (nI r)), (9, .int (nI pp)), (8, .int (nI f)), (7, .int (nI wa)), (6, .int (nI vi)), (5, .int (nI kx)), (4, .ref (y1.1 + 1)), (3, .ref y2.1), (2, .ref y1.1), (1, .int (nI tm)), (0, .ref b)]) hx hb dL_law_171 hl (by decide) rfl (fun ls hl => ?_)
  refine lv_iload hx hb dL_law_173 (lv_at hl 0 rfl) ?_
  refine lv_iload hx hb dL_law_175 (lv_at hl 1 rfl) ?_
  refine lv_icmp_ge (tgt := 324) hx hb dL_law_177 (by decide) (fun c_177 => ?_) (fun c_177 => ?_)
  · exact absurd c_177 (by decide +kernel)
  · refine lv_aload hx hb dL_law_180 (lv_at hl 2 rfl) ?_
    refine lv_iload hx hb dL_law_182 (lv_at hl 0 rfl) ?_
    refine lw_ald (q := 0) (v := y1.1 + 1) hx hb hE ha (by decide) (by decide) rfl dL_law_184 ?_
    refine lv_astore (lv' := [(17, .ref (y1.1 + 1)), (16, .int 0), (15, .int 2), (14, .ref a14), (11, .int (nI hh)), (10, .int (nI r)), (9, .int (nI pp)), (8, .int (nI f)), (7, .int (nI wa)), (6, .int (nI vi)), (5, .int (nI kx)), (4, .ref (y1.1 + 1)), (3, .ref y2.1), (2, .ref y1.1), (1, .int (nI tm)), (0, .ref b)]) hx hb dL_law_185 hl (by decide) rfl (fun ls hl => ?_)
    refine law_show G hG hcs2 hI _ _ _ _ _ _ tm kx vi wa f pp r hh hf hr hhh (fun H => va_at D vwCl (a14, .inl (cW, 2, .inr (.inr (.inr (.inr (va_up (va_up (fun _ => none) 0 (some (y1.1 + 1))) 1 (some (y2.1 + 1)))))))) H) (fun H H1 ha _ hq => ha.kept (hq _ ha.lt (fun z => by have := z.2; have := haz.1; have := haz.2; omega))) hB ha hS (lv_sub hl [0, 1, 2, 3, 4, 5, 6, 7, 8, 9, 10, 11, 12, 13, 14, 15] rfl) (fun H locs hB ha hS ls hl => ?_)
    refine law_work G hG hcs2 (lw_I_sh hI hf hr) _ _ _ _ _ _ tm kx vi wa f pp r hh hf hr hhh (fun H => va_at D vwCl (a14, .inl (cW, 2, .inr (.inr (.inr (.inr (va_up (va_up (fun _ => none) 0 (some (y1.1 + 1))) 1 (some (y2.1 + 1)))))))) H) (fun H H1 ha _ hq => ha.kept (hq _ ha.lt (fun z => by have := z.2; have := haz.1; have := haz.2; omega))) hB ha hS hl (fun H locs hB ha hS ls hl => ?_)
    refine lv_iinc (v := 1) (lv' := [(16, .int 1), (17, .ref (y1.1 + 1)), (15, .int 2), (14, .ref a14), (11, .int (nI hh)), (10, .int (nI r)), (9, .int (nI pp)), (8, .int (nI f)), (7, .int (nI wa)), (6, .int (nI vi)), (5, .int (nI kx)), (4, .ref (y1.1 + 1)), (3, .ref y2.1), (2, .ref y1.1), (1, .int (nI tm)), (0, .ref b)]) hx hb dL_law_318 hl (k := 1) rfl (by decide) (by decide) rfl (fun ls hl => ?_)
    refine lv_goto (tgt := 173) hx hb dL_law_321 (by decide) ?_
    refine lv_iload hx hb dL_law_173 (lv_at hl 0 rfl) ?_
    refine lv_iload hx hb dL_law_175 (lv_at hl 2 rfl) ?_
    refine lv_icmp_ge (tgt := 324) hx hb dL_law_177 (by decide) (fun c_177 => ?_) (fun c_177 => ?_)
    · exact absurd c_177 (by decide +kernel)
    · refine lv_aload hx hb dL_law_180 (lv_at hl 3 rfl) ?_
      refine lv_iload hx hb dL_law_182 (lv_at hl 0 rfl) ?_
      refine lw_ald (q := 1) (v := y2.1 + 1) hx hb hE ha (by decide) (by decide) rfl dL_law_184 ?_
      refine lv_astore (lv' := [(17, .ref (y2.1 + 1)), (16, .int 1), (15, .int 2), (14, .ref a14), (11, .int (nI hh)), (10, .int (nI r)), (9, .int (nI pp)), (8, .int (nI f)), (7, .int (nI wa)), (6, .int (nI vi)), (5, .int (nI kx)), (4, .ref (y1.1 + 1)), (3, .ref y2.1), (2, .ref y1.1), (1, .int (nI tm)), (0, .ref b)]) hx hb dL_law_185 hl (by decide) rfl (fun ls hl => ?_)
      refine law_show (y1 := y2) (y2 := y1) G hG.sw hcs2 hI _ _ _ _ _ _ tm kx vi wa f pp r hh hf hr hhh (fun H => va_at D vwCl (a14, .inl (cW, 2, .inr (.inr (.inr (.inr (va_up (va_up (fun _ => none) 0 (some (y1.1 + 1))) 1 (some (y2.1 + 1)))))))) H) (fun H H1 ha _ hq => ha.kept (hq _ ha.lt (fun z => by have := z.2; have := haz.1; have := haz.2; omega))) hB.sw ha hS (lv_sub hl [0, 1, 2, 3, 4, 5, 6, 7, 8, 9, 10, 11, 12, 13, 14, 15] rfl) (fun H locs hB ha hS ls hl => ?_)
      refine law_work (y1 := y2) (y2 := y1) G hG.sw hcs2 (lw_I_sh hI hf hr) _ _ _ _ _ _ tm kx vi wa f pp r hh hf hr hhh (fun H => va_at D vwCl (a14, .inl (cW, 2, .inr (.inr (.inr (.inr (va_up (va_up (fun _ => none) 0 (some (y1.1 + 1))) 1 (some (y2.1 + 1)))))))) H) (fun H H1 ha _ hq => ha.kept (hq _ ha.lt (fun z => by have := z.2; have := haz.1; have := haz.2; omega))) hB ha hS hl (fun H locs hB ha hS ls hl => ?_)
      have hB := hB.sw
      refine lv_iinc (v := 2) (lv' := [(16, .int 2), (17, .ref (y2.1 + 1)), (15, .int 2), (14, .ref a14), (11, .int (nI hh)), (10, .int (nI r)), (9, .int (nI pp)), (8, .int (nI f)), (7, .int (nI wa)), (6, .int (nI vi)), (5, .int (nI kx)), (4, .ref (y1.1 + 1)), (3, .ref y2.1), (2, .ref y1.1), (1, .int (nI tm)), (0, .ref b)]) hx hb dL_law_318 hl (k := 1) rfl (by decide) (by decide) rfl (fun ls hl => ?_)
      refine lv_goto (tgt := 173) hx hb dL_law_321 (by decide) ?_
      refine lv_iload hx hb dL_law_173 (lv_at hl 0 rfl) ?_
      refine lv_iload hx hb dL_law_175 (lv_at hl 2 rfl) ?_
      refine lv_icmp_ge (tgt := 324) hx hb dL_law_177 (by decide) (fun c_177 => ?_) (fun c_177 => ?_)
      · exact kK _ _ hB hS ls (lv_sub hl [4, 5, 6, 7, 8, 9, 10, 11, 12, 13, 14, 15] rfl)
      · exact absurd (by decide +kernel) c_177
set_option maxHeartbeats 4000000 in
set_option maxRecDepth 100000 in
/-- was it melted -/
theorem law_was {p : Program} {l : Launch} {e : Env} {s : State} {m : MethodId} {below : List Frame} {meth : Method} {c0 : Code} {Q : State → Prop} {cells slots : Nat} {D : va_G} {d : hs_Dm} {cB cW : ClassId} {b N : Nat} {xs : Nat → Int32} {y1 y2 : lw_Y} (G : lw_N p s m c0 D d cB cW b N xs) (hG : lw_G s.heap.size b y1 y2) (hcs : cells ≤ room_1.cells ∧ slots ≤ room_1.slots) {k1 k2 dd : Nat} {ρ τ1 τ2 : hs_St} (hI : lw_I ρ dd) (tm kx vi wa f pp r hh : Nat) (hvi : vi ≤ 2000) (hwa : wa ≤ 40) (hf : f < 5) (hpp : pp < 4) (hr : r < 3) (hhh : hh ≤ 9) {H : Heap} {locs : List Loc} (hB : lw_B D d b y1 y2 k1 k2 ρ τ1 ρ τ2 H) (hS : va_S (rg_A s.heap.size) s.heap H locs) {ls : Array Slot} (hl : lv_has ls 22 [(11, .int (nI hh)), (10, .int (nI r)), (9, .int (nI pp)), (8, .int (nI f)), (7, .int (nI wa)), (6, .int (nI vi)), (5, .int (nI kx)), (4, .ref (y1.1 + 1)), (3, .ref y2.1), (2, .ref y1.1), (1, .int (nI tm)), (0, .ref b)]) (kK : ∀ (wm : Int32) (H : Heap) (locs : List Loc), (wm = 1 ∧ ρ 9 f 7 = 7) ∨ (wm = 0 ∧ ¬ ρ 9 f 7 = 7) → lw_B D d b y1 y2 k1 k2 ρ τ1 ρ τ2 H → va_S (rg_A s.heap.size) s.heap H locs → ∀ ls : Array Slot, lv_has ls 22 [(14, .int wm), (11, .int (nI hh)), (10, .int (nI r)), (9, .int (nI pp)), (8, .int (nI f)), (7, .int (nI wa)), (6, .int (nI vi)), (5, .int (nI kx)), (4, .ref (y1.1 + 1)), (3, .ref y2.1), (2, .ref y1.1), (1, .int (nI tm)), (0, .ref b)] → W p l e room_1 s m #[Value.ref b] below meth c0 H locs cells slots Q (F0 m 345 ls [])) : W p l e room_1 s m #[Value.ref b] below meth c0 H locs cells slots Q (F0 m 324 ls []) := by
  obtain ⟨hx, hb, hml, hown, hts, hE, hN31⟩ := id G
  refine lv_aload hx hb dL_law_324 (lv_at hl 7 rfl) ?_
  refine lv_iload hx hb dL_law_326 (lv_at hl 3 rfl) ?_
  refine lv_bipush (v := 8) hx hb dL_law_328 (by decide) ?_
  refine lw_rd (v := sp_ofF ρ f 8) (As := [.int (nI f), .int 8]) ⟨hx, hb, hml, hown, hts⟩ (kX4_ofFigure_8 l D d (rc_L (y1.1 + 2)) ρ (lw_A (y1.1 + 2)) (y1.1 + 1) (rc_L (y1.1 + 69)) (lw_wA _) 4 5 3 hI.1 f (by omega)) (cwV 2 hts gL_law_X4_ofFigure rfl rfl rfl (by decide +kernel) ⟨Nat.le_of_ble_eq_true rfl, Nat.le_of_ble_eq_true rfl⟩) hE hG hB hS rfl hl.1 (Nat.le_of_ble_eq_true rfl) dL_law_330 hcs rfl (fun H locs hB hz hq hS => ?_)
  refine lv_bipush (v := 7) hx hb dL_law_333 (by decide) ?_
  refine lv_icmp_ne (tgt := 342) hx hb dL_law_335 (by decide) (fun c_335 => ?_) (fun c_335 => ?_)
  · refine lv_iconst (v := 0) hx hb dL_law_342 (by decide) ?_
    refine lv_istore (lv' := [(14, .int 0), (11, .int (nI hh)), (10, .int (nI r)), (9, .int (nI pp)), (8, .int (nI f)), (7, .int (nI wa)), (6, .int (nI vi)), (5, .int (nI kx)), (4, .ref (y1.1 + 1)), (3, .ref y2.1), (2, .ref y1.1), (1, .int (nI tm)), (0, .ref b)]) hx hb dL_law_343 hl (by decide) rfl (fun ls hl => ?_)
    exact kK _ _ _ (Or.inr ⟨rfl, c_335⟩) hB hS ls (lv_sub hl [0, 1, 2, 3, 4, 5, 6, 7, 8, 9, 10, 11, 12] rfl)
  · refine lv_iconst (v := 1) hx hb dL_law_338 (by decide) ?_
    refine lv_goto (tgt := 343) hx hb dL_law_339 (by decide) ?_
    refine lv_istore (lv' := [(14, .int 1), (11, .int (nI hh)), (10, .int (nI r)), (9, .int (nI pp)), (8, .int (nI f)), (7, .int (nI wa)), (6, .int (nI vi)), (5, .int (nI kx)), (4, .ref (y1.1 + 1)), (3, .ref y2.1), (2, .ref y1.1), (1, .int (nI tm)), (0, .ref b)]) hx hb dL_law_343 hl (by decide) rfl (fun ls hl => ?_)
    exact kK _ _ _ (Or.inl ⟨rfl, c_335⟩) hB hS ls (lv_sub hl [0, 1, 2, 3, 4, 5, 6, 7, 8, 9, 10, 11, 12] rfl)
set_option maxHeartbeats 4000000 in
set_option maxRecDepth 100000 in
/-- meltsIn, readyIn, bestNext -/
theorem law_says {p : Program} {l : Launch} {e : Env} {s : State} {m : MethodId} {below : List Frame} {meth : Method} {c0 : Code} {Q : State → Prop} {cells slots : Nat} {D : va_G} {d : hs_Dm} {cB cW : ClassId} {b N : Nat} {xs : Nat → Int32} {y1 y2 : lw_Y} (G : lw_N p s m c0 D d cB cW b N xs) (hG : lw_G s.heap.size b y1 y2) (hcs : cells ≤ room_1.cells ∧ slots ≤ room_1.slots) {k1 k2 dd : Nat} {ρ τ1 τ2 : hs_St} (hI : lw_I ρ dd) (hV1 : lw_V τ1) (hV2 : lw_V τ2) (tm kx vi wa f pp r hh : Nat) (hvi : vi ≤ 2000) (hwa : wa ≤ 40) (hf : f < 5) (hpp : pp < 4) (hr : r < 3) (hhh : hh ≤ 9) {wm : Int32} {H : Heap} {locs : List Loc} (hB : lw_B D d b y1 y2 k1 k2 ρ τ1 ρ τ2 H) (hS : va_S (rg_A s.heap.size) s.heap H locs) {ls : Array Slot} (hl : lv_has ls 22 [(14, .int wm), (11, .int (nI hh)), (10, .int (nI r)), (9, .int (nI pp)), (8, .int (nI f)), (7, .int (nI wa)), (6, .int (nI vi)), (5, .int (nI kx)), (4, .ref (y1.1 + 1)), (3, .ref y2.1), (2, .ref y1.1), (1, .int (nI tm)), (0, .ref b)]) (kK : ∀ (τ : hs_St) (H : Heap) (locs : List Loc), lw_V τ → lw_B D d b y1 y2 k1 k2 ρ τ ρ τ2 H → va_S (rg_A s.heap.size) s.heap H locs → ∀ ls : Array Slot, lv_has ls 22 [(17, .int ((sp_best ρ 5 4).1)), (16, .int (sp_days ρ 4)), (15, .int (lw_m ρ f (nI vi) (nI wa))), (14, .int wm), (11, .int (nI hh)), (10, .int (nI r)), (9, .int (nI pp)), (8, .int (nI f)), (7, .int (nI wa)), (6, .int (nI vi)), (5, .int (nI kx)), (4, .ref (y1.1 + 1)), (3, .ref y2.1), (2, .ref y1.1), (1, .int (nI tm)), (0, .ref b)] → W p l e room_1 s m #[Value.ref b] below meth c0 H locs cells slots Q (F0 m 373 ls [])) : W p l e room_1 s m #[Value.ref b] below meth c0 H locs cells slots Q (F0 m 345 ls []) := by
  obtain ⟨hx, hb, hml, hown, hts, hE, hN31⟩ := id G
  refine lv_aload hx hb dL_law_345 (lv_at hl 8 rfl) ?_
  refine lv_iload hx hb dL_law_347 (lv_at hl 4 rfl) ?_
  refine lv_iload hx hb dL_law_349 (lv_at hl 6 rfl) ?_
  refine lv_iload hx hb dL_law_351 (lv_at hl 5 rfl) ?_
  obtain ⟨P2, F2, R2, hok2, hR2⟩ := id hV1.1
  refine lw_ti (As := [.int (nI f), .int (nI vi), .int (nI wa)]) ⟨hx, hb, hml, hown, hts⟩ (kX4_meltsIn l D d (rc_L (y1.1 + 2)) ρ (lw_A (y1.1 + 2)) (y1.1 + 1) (rc_L (y1.1 + 69)) (lw_A (y1.1 + 69)) (lw_dis _) (lw_wB _) 4 5 3 hI.1 τ1 f hf (nI vi) (nI wa) (nI_pos (by omega)) (nI_le (b := 2000) hvi (by decide)) (nI_pos (by omega)) (nI_le (b := 40) hwa (by decide)) (fun f hf => hI.2.2.2.1 f hf) (fun q _ => hI.2.2.2.2.1 q) hok2 hR2) (cwV 3 hts gL_law_X4_meltsIn rfl rfl rfl (by decide +kernel) ⟨Nat.le_of_ble_eq_true rfl, Nat.le_of_ble_eq_true rfl⟩) hE hG hB hS rfl hl.1 (Nat.le_of_ble_eq_true rfl) dL_law_353 hcs rfl (fun r_ τ_ H locs hp hB hz hS => ?_)
  have er : r_ = lw_m ρ f (nI vi) (nI wa) := by
    have h_ := pd_mIn hI.2.1 hV1.2 hI.2.2.1 f (nI vi) (nI wa)
    rw [hp] at h_
    exact h_
  have ev : lw_V τ_ := by
    have h_ := lw_Vm hI hV1 f (nI vi) (nI wa)
    rw [hp] at h_
    exact h_
  clear hp
  subst er
  refine lv_istore (lv' := [(15, .int (lw_m ρ f (nI vi) (nI wa))), (14, .int wm), (11, .int (nI hh)), (10, .int (nI r)), (9, .int (nI pp)), (8, .int (nI f)), (7, .int (nI wa)), (6, .int (nI vi)), (5, .int (nI kx)), (4, .ref (y1.1 + 1)), (3, .ref y2.1), (2, .ref y1.1), (1, .int (nI tm)), (0, .ref b)]) hx hb dL_law_356 hl (by decide) rfl (fun ls hl => ?_)
  refine lv_aload hx hb dL_law_358 (lv_at hl 9 rfl) ?_
  refine lv_iconst (v := 4) hx hb dL_law_360 (by decide) ?_
  refine lw_rd (v := sp_days ρ 4) (As := [.int 4]) ⟨hx, hb, hml, hown, hts⟩ (kX4_readyIn l D d (rc_L (y1.1 + 2)) ρ (lw_A (y1.1 + 2)) (y1.1 + 1) (rc_L (y1.1 + 69)) (lw_wA _) 4 5 3 hI.1 4 (by decide)) (cwV 1 hts gL_law_X4_readyIn rfl rfl rfl (by decide +kernel) ⟨Nat.le_of_ble_eq_true rfl, Nat.le_of_ble_eq_true rfl⟩) hE hG hB hS rfl hl.1 (Nat.le_of_ble_eq_true rfl) dL_law_361 hcs rfl (fun H locs hB hz hq hS => ?_)
  refine lv_istore (lv' := [(16, .int (sp_days ρ 4)), (15, .int (lw_m ρ f (nI vi) (nI wa))), (14, .int wm), (11, .int (nI hh)), (10, .int (nI r)), (9, .int (nI pp)), (8, .int (nI f)), (7, .int (nI wa)), (6, .int (nI vi)), (5, .int (nI kx)), (4, .ref (y1.1 + 1)), (3, .ref y2.1), (2, .ref y1.1), (1, .int (nI tm)), (0, .ref b)]) hx hb dL_law_364 hl (by decide) rfl (fun ls hl => ?_)
  refine lv_aload hx hb dL_law_366 (lv_at hl 10 rfl) ?_
  refine lw_rd (v := (sp_best ρ 5 4).1) (As := []) ⟨hx, hb, hml, hown, hts⟩ (kX4_bestNext l D d (rc_L (y1.1 + 2)) ρ (lw_A (y1.1 + 2)) (y1.1 + 1) (rc_L (y1.1 + 69)) (lw_wA _) 4 5 3 hI.1) (cwV 0 hts gL_law_X4_bestNext rfl rfl rfl (by decide +kernel) ⟨Nat.le_of_ble_eq_true rfl, Nat.le_of_ble_eq_true rfl⟩) hE hG hB hS rfl hl.1 (Nat.le_of_ble_eq_true rfl) dL_law_368 hcs rfl (fun H locs hB hz hq hS => ?_)
  refine lv_istore (lv' := [(17, .int ((sp_best ρ 5 4).1)), (16, .int (sp_days ρ 4)), (15, .int (lw_m ρ f (nI vi) (nI wa))), (14, .int wm), (11, .int (nI hh)), (10, .int (nI r)), (9, .int (nI pp)), (8, .int (nI f)), (7, .int (nI wa)), (6, .int (nI vi)), (5, .int (nI kx)), (4, .ref (y1.1 + 1)), (3, .ref y2.1), (2, .ref y1.1), (1, .int (nI tm)), (0, .ref b)]) hx hb dL_law_371 hl (by decide) rfl (fun ls hl => ?_)
  exact kK _ _ _ ev hB hS ls (lv_sub hl [0, 1, 2, 3, 4, 5, 6, 7, 8, 9, 10, 11, 12, 13, 14, 15] rfl)
set_option maxHeartbeats 4000000 in
set_option maxRecDepth 100000 in
/-- how many days -/
theorem law_many {p : Program} {l : Launch} {e : Env} {s : State} {m : MethodId} {below : List Frame} {meth : Method} {c0 : Code} {Q : State → Prop} {cells slots : Nat} {D : va_G} {d : hs_Dm} {cB cW : ClassId} {b N : Nat} {xs : Nat → Int32} {y1 y2 : lw_Y} (G : lw_N p s m c0 D d cB cW b N xs) (hG : lw_G s.heap.size b y1 y2) (hcs : cells ≤ room_1.cells ∧ slots ≤ room_1.slots) {k1 k2 dd : Nat} {ρ τ1 τ2 : hs_St} (hI : lw_I ρ dd) (tm kx vi wa f pp r hh : Nat) (hvi : vi ≤ 2000) (hwa : wa ≤ 40) (hf : f < 5) (hpp : pp < 4) (hr : r < 3) (hhh : hh ≤ 9) {wm : Int32} (hk20 : k1 < 2 ^ 29) {H : Heap} {locs : List Loc} (hB : lw_B D d b y1 y2 k1 k2 ρ τ1 ρ τ2 H) (hS : va_S (rg_A s.heap.size) s.heap H locs) {ls : Array Slot} (hl : lv_has ls 22 [(17, .int ((sp_best ρ 5 4).1)), (16, .int (sp_days ρ 4)), (15, .int (lw_m ρ f (nI vi) (nI wa))), (14, .int wm), (11, .int (nI hh)), (10, .int (nI r)), (9, .int (nI pp)), (8, .int (nI f)), (7, .int (nI wa)), (6, .int (nI vi)), (5, .int (nI kx)), (4, .ref (y1.1 + 1)), (3, .ref y2.1), (2, .ref y1.1), (1, .int (nI tm)), (0, .ref b)]) (kK : ∀ (M k : Nat) (H : Heap) (locs : List Loc), 1 ≤ M → M ≤ 40 → k ≤ k1 + 1 → lw_B D d b y1 y2 k k2 ρ τ1 ρ τ2 H → va_S (rg_A s.heap.size) s.heap H locs → ∀ ls : Array Slot, lv_has ls 22 [(18, .int (nI M)), (17, .int ((sp_best ρ 5 4).1)), (16, .int (sp_days ρ 4)), (15, .int (lw_m ρ f (nI vi) (nI wa))), (14, .int wm), (11, .int (nI hh)), (10, .int (nI r)), (9, .int (nI pp)), (8, .int (nI f)), (7, .int (nI wa)), (6, .int (nI vi)), (5, .int (nI kx)), (4, .ref (y1.1 + 1)), (3, .ref y2.1), (2, .ref y1.1), (1, .int (nI tm)), (0, .ref b)] → W p l e room_1 s m #[Value.ref b] below meth c0 H locs cells slots Q (F0 m 404 ls [])) : W p l e room_1 s m #[Value.ref b] below meth c0 H locs cells slots Q (F0 m 373 ls []) := by
  obtain ⟨hx, hb, hml, hown, hts, hE, hN31⟩ := id G
  refine lv_iload hx hb dL_law_373 (lv_at hl 2 rfl) ?_
  refine lv_if_le (tgt := 383) hx hb dL_law_375 (by decide) (fun c_375 => ?_) (fun c_375 => ?_)
  · refine lv_iconst (v := 1) hx hb dL_law_383 (by decide) ?_
    refine lv_aload_n hx hb dL_law_384 rfl (lv_at hl 13 rfl) ?_
    refine lv_bipush (v := 9) hx hb dL_law_385 (by decide) ?_
    refine lw_dr ⟨hx, hb, hml, hown, hts⟩ (cwV 1 hts gL_law_X5_draw rfl rfl rfl (by decide +kernel) ⟨Nat.le_of_ble_eq_true rfl, Nat.le_of_ble_eq_true rfl⟩) (by omega) hN31 (by decide) hE hG hB hS rfl hl.1 (Nat.le_of_ble_eq_true rfl) dL_law_387 hcs rfl (fun H locs hB hz hS => ?_)
    obtain ⟨j, hj_, ej_⟩ := tl_v_in xs N k1 (m := 9) (by decide) (by decide)
    rw [show tl_v xs N k1 9 = nI j from ej_]
    refine lv_iadd hx hb dL_law_390 ?_
    rw [show (1 : Int32) + nI j = nI (1 + j) from nI_add 1 j]
    refine lv_istore (lv' := [(18, .int (nI (1 + j))), (17, .int ((sp_best ρ 5 4).1)), (16, .int (sp_days ρ 4)), (15, .int (lw_m ρ f (nI vi) (nI wa))), (14, .int wm), (11, .int (nI hh)), (10, .int (nI r)), (9, .int (nI pp)), (8, .int (nI f)), (7, .int (nI wa)), (6, .int (nI vi)), (5, .int (nI kx)), (4, .ref (y1.1 + 1)), (3, .ref y2.1), (2, .ref y1.1), (1, .int (nI tm)), (0, .ref b)]) hx hb dL_law_391 hl (by decide) rfl (fun ls hl => ?_)
    refine lv_iload hx hb dL_law_393 (lv_at hl 0 rfl) ?_
    refine lv_bipush (v := 40) hx hb dL_law_395 (by decide) ?_
    refine lv_icmp_le (tgt := 404) hx hb dL_law_397 (by decide) (fun c_397 => ?_) (fun c_397 => ?_)
    · have c_397 := (nI_leI (a := 1 + j) (b := 40) (by omega) (by decide)).mp c_397
      exact kK (1 + j) _ _ _ (by omega) (by omega) (by omega) hB hS ls (lv_sub hl [0, 1, 2, 3, 4, 5, 6, 7, 8, 9, 10, 11, 12, 13, 14, 15, 16] rfl)
    · refine lv_bipush (v := 40) hx hb dL_law_400 (by decide) ?_
      refine lv_istore (lv' := [(18, .int 40), (17, .int ((sp_best ρ 5 4).1)), (16, .int (sp_days ρ 4)), (15, .int (lw_m ρ f (nI vi) (nI wa))), (14, .int wm), (11, .int (nI hh)), (10, .int (nI r)), (9, .int (nI pp)), (8, .int (nI f)), (7, .int (nI wa)), (6, .int (nI vi)), (5, .int (nI kx)), (4, .ref (y1.1 + 1)), (3, .ref y2.1), (2, .ref y1.1), (1, .int (nI tm)), (0, .ref b)]) hx hb dL_law_402 hl (by decide) rfl (fun ls hl => ?_)
      exact kK 40 _ _ _ (by decide) (by decide) (by omega) hB hS ls (lv_sub hl [0, 1, 2, 3, 4, 5, 6, 7, 8, 9, 10, 11, 12, 13, 14, 15, 16] rfl)
  · obtain ⟨dx, hd1, hd2, hd3⟩ : ∃ d, 1 ≤ d ∧ d ≤ 60 ∧ lw_m ρ f (nI vi) (nI wa) = nI d := (lw_m_in ρ f (nI vi) (nI wa)).resolve_left (fun z => c_375 (by rw [z]; decide))
    refine lv_iload hx hb dL_law_378 (lv_at hl 2 rfl) ?_
    rw [hd3]
    refine lv_goto (tgt := 391) hx hb dL_law_380 (by decide) ?_
    refine lv_istore (lv' := [(18, .int (nI dx)), (17, .int ((sp_best ρ 5 4).1)), (16, .int (sp_days ρ 4)), (15, .int (lw_m ρ f (nI vi) (nI wa))), (14, .int wm), (11, .int (nI hh)), (10, .int (nI r)), (9, .int (nI pp)), (8, .int (nI f)), (7, .int (nI wa)), (6, .int (nI vi)), (5, .int (nI kx)), (4, .ref (y1.1 + 1)), (3, .ref y2.1), (2, .ref y1.1), (1, .int (nI tm)), (0, .ref b)]) hx hb dL_law_391 hl (by decide) rfl (fun ls hl => ?_)
    refine lv_iload hx hb dL_law_393 (lv_at hl 0 rfl) ?_
    refine lv_bipush (v := 40) hx hb dL_law_395 (by decide) ?_
    refine lv_icmp_le (tgt := 404) hx hb dL_law_397 (by decide) (fun c_397 => ?_) (fun c_397 => ?_)
    · have c_397 := (nI_leI (a := dx) (b := 40) (by omega) (by decide)).mp c_397
      exact kK dx _ _ _ (by omega) (by omega) (by omega) hB hS ls (lv_sub hl [0, 1, 2, 3, 4, 5, 6, 7, 8, 9, 10, 11, 12, 13, 14, 15, 16] rfl)
    · refine lv_bipush (v := 40) hx hb dL_law_400 (by decide) ?_
      refine lv_istore (lv' := [(18, .int 40), (17, .int ((sp_best ρ 5 4).1)), (16, .int (sp_days ρ 4)), (15, .int (lw_m ρ f (nI vi) (nI wa))), (14, .int wm), (11, .int (nI hh)), (10, .int (nI r)), (9, .int (nI pp)), (8, .int (nI f)), (7, .int (nI wa)), (6, .int (nI vi)), (5, .int (nI kx)), (4, .ref (y1.1 + 1)), (3, .ref y2.1), (2, .ref y1.1), (1, .int (nI tm)), (0, .ref b)]) hx hb dL_law_402 hl (by decide) rfl (fun ls hl => ?_)
      exact kK 40 _ _ _ (by decide) (by decide) (by omega) hB hS ls (lv_sub hl [0, 1, 2, 3, 4, 5, 6, 7, 8, 9, 10, 11, 12, 13, 14, 15, 16] rfl)
set_option maxHeartbeats 4000000 in
set_option maxRecDepth 100000 in
/-- fame foreseen -/
theorem law_fame {p : Program} {l : Launch} {e : Env} {s : State} {m : MethodId} {below : List Frame} {meth : Method} {c0 : Code} {Q : State → Prop} {cells slots : Nat} {D : va_G} {d : hs_Dm} {cB cW : ClassId} {b N : Nat} {xs : Nat → Int32} {y1 y2 : lw_Y} (G : lw_N p s m c0 D d cB cW b N xs) (hG : lw_G s.heap.size b y1 y2) (hcs : cells ≤ room_1.cells ∧ slots ≤ room_1.slots) {k1 k2 dd : Nat} {ρ τ1 τ2 : hs_St} (hI : lw_I ρ dd) (tm kx vi wa f pp r hh : Nat) (hvi : vi ≤ 2000) (hwa : wa ≤ 40) (hf : f < 5) (hpp : pp < 4) (hr : r < 3) (hhh : hh ≤ 9) {wm : Int32} (M : Nat) (hM : M ≤ 40) (hdd : dd < 2 ^ 29) {H : Heap} {locs : List Loc} (hB : lw_B D d b y1 y2 k1 k2 ρ τ1 ρ τ2 H) (hS : va_S (rg_A s.heap.size) s.heap H locs) {ls : Array Slot} (hl : lv_has ls 22 [(18, .int (nI M)), (17, .int ((sp_best ρ 5 4).1)), (16, .int (sp_days ρ 4)), (15, .int (lw_m ρ f (nI vi) (nI wa))), (14, .int wm), (11, .int (nI hh)), (10, .int (nI r)), (9, .int (nI pp)), (8, .int (nI f)), (7, .int (nI wa)), (6, .int (nI vi)), (5, .int (nI kx)), (4, .ref (y1.1 + 1)), (3, .ref y2.1), (2, .ref y1.1), (1, .int (nI tm)), (0, .ref b)]) (kK : ∀ (H : Heap) (locs : List Loc), lw_B D d b y1 y2 k1 k2 ρ τ1 ρ τ2 H → va_S (rg_A s.heap.size) s.heap H locs → ∀ ls : Array Slot, lv_has ls 22 [(20, .int (sp_fame ρ pp 1 ((dd + M) / 30 - dd / 30))), (18, .int (nI M)), (17, .int ((sp_best ρ 5 4).1)), (16, .int (sp_days ρ 4)), (15, .int (lw_m ρ f (nI vi) (nI wa))), (14, .int wm), (11, .int (nI hh)), (10, .int (nI r)), (9, .int (nI pp)), (8, .int (nI f)), (7, .int (nI wa)), (6, .int (nI vi)), (5, .int (nI kx)), (4, .ref (y1.1 + 1)), (3, .ref y2.1), (2, .ref y1.1), (1, .int (nI tm)), (0, .ref b)] → W p l e room_1 s m #[Value.ref b] below meth c0 H locs cells slots Q (F0 m 440 ls [])) : W p l e room_1 s m #[Value.ref b] below meth c0 H locs cells slots Q (F0 m 404 ls []) := by
  obtain ⟨hx, hb, hml, hown, hts, hE, hN31⟩ := id G
  refine lv_aload hx hb dL_law_404 (lv_at hl 12 rfl) ?_
  refine lv_iconst (v := 0) hx hb dL_law_406 (by decide) ?_
  refine lw_rd (v := sp_many ρ 4 5 0) (As := [.int 0]) ⟨hx, hb, hml, hown, hts⟩ (kX4_many_0 l D d (rc_L (y1.1 + 2)) ρ (lw_A (y1.1 + 2)) (y1.1 + 1) (rc_L (y1.1 + 69)) (lw_wA _) 4 5 3 hI.1) (cwV 1 hts gL_law_X4_many rfl rfl rfl (by decide +kernel) ⟨Nat.le_of_ble_eq_true rfl, Nat.le_of_ble_eq_true rfl⟩) hE hG hB hS rfl hl.1 (Nat.le_of_ble_eq_true rfl) dL_law_407 hcs rfl (fun H locs hB hz hq hS => ?_)
  rw [show sp_many ρ 4 5 0 = nI dd from hI.2.2.2.2.2.2.2.2.1]
  refine lv_iload hx hb dL_law_410 (lv_at hl 0 rfl) ?_
  refine lv_iadd hx hb dL_law_412 ?_
  rw [nI_add]
  refine lv_bipush (v := 30) hx hb dL_law_413 (by decide) ?_
  refine lv_idiv hx hb dL_law_415 (by decide) ?_
  rw [show nI (dd + M) / 30 = nI ((dd + M) / 30) from pf_div (a := dd + M) (by omega) 30 (by decide) (by decide)]
  refine lv_aload hx hb dL_law_416 (lv_at hl 12 rfl) ?_
  refine lv_iconst (v := 0) hx hb dL_law_418 (by decide) ?_
  refine lw_rd (v := sp_many ρ 4 5 0) (As := [.int 0]) ⟨hx, hb, hml, hown, hts⟩ (kX4_many_0 l D d (rc_L (y1.1 + 2)) ρ (lw_A (y1.1 + 2)) (y1.1 + 1) (rc_L (y1.1 + 69)) (lw_wA _) 4 5 3 hI.1) (cwV 1 hts gL_law_X4_many rfl rfl rfl (by decide +kernel) ⟨Nat.le_of_ble_eq_true rfl, Nat.le_of_ble_eq_true rfl⟩) hE hG hB hS rfl hl.1 (Nat.le_of_ble_eq_true rfl) dL_law_419 hcs rfl (fun H locs hB hz hq hS => ?_)
  rw [show sp_many ρ 4 5 0 = nI dd from hI.2.2.2.2.2.2.2.2.1]
  refine lv_bipush (v := 30) hx hb dL_law_422 (by decide) ?_
  refine lv_idiv hx hb dL_law_424 (by decide) ?_
  rw [show nI dd / 30 = nI (dd / 30) from pf_div (a := dd) (by omega) 30 (by decide) (by decide)]
  refine lv_isub hx hb dL_law_425 ?_
  rw [nI_sub (show dd / 30 ≤ (dd + M) / 30 by omega)]
  refine lv_istore (lv' := [(19, .int (nI ((dd + M) / 30 - dd / 30))), (18, .int (nI M)), (17, .int ((sp_best ρ 5 4).1)), (16, .int (sp_days ρ 4)), (15, .int (lw_m ρ f (nI vi) (nI wa))), (14, .int wm), (11, .int (nI hh)), (10, .int (nI r)), (9, .int (nI pp)), (8, .int (nI f)), (7, .int (nI wa)), (6, .int (nI vi)), (5, .int (nI kx)), (4, .ref (y1.1 + 1)), (3, .ref y2.1), (2, .ref y1.1), (1, .int (nI tm)), (0, .ref b)]) hx hb dL_law_426 hl (by decide) rfl (fun ls hl => ?_)
  refine lv_aload hx hb dL_law_428 (lv_at hl 13 rfl) ?_
  refine lv_iload hx hb dL_law_430 (lv_at hl 8 rfl) ?_
  refine lv_iconst (v := 1) hx hb dL_law_432 (by decide) ?_
  refine lv_iload hx hb dL_law_433 (lv_at hl 0 rfl) ?_
  refine lw_rd (v := sp_fame ρ pp 1 ((dd + M) / 30 - dd / 30)) (As := [.int (nI pp), .int 1, .int (nI ((dd + M) / 30 - dd / 30))]) ⟨hx, hb, hml, hown, hts⟩ (kX4_wouldFame l D d (rc_L (y1.1 + 2)) ρ (lw_A (y1.1 + 2)) (y1.1 + 1) (rc_L (y1.1 + 69)) (lw_wA _) 4 5 3 hI.1 pp (by omega) 1 (by decide) ((dd + M) / 30 - dd / 30) (by omega)) (cwV 3 hts gL_law_X4_wouldFame rfl rfl rfl (by decide +kernel) ⟨Nat.le_of_ble_eq_true rfl, Nat.le_of_ble_eq_true rfl⟩) hE hG hB hS rfl hl.1 (Nat.le_of_ble_eq_true rfl) dL_law_435 hcs rfl (fun H locs hB hz hq hS => ?_)
  refine lv_istore (lv' := [(20, .int (sp_fame ρ pp 1 ((dd + M) / 30 - dd / 30))), (19, .int (nI ((dd + M) / 30 - dd / 30))), (18, .int (nI M)), (17, .int ((sp_best ρ 5 4).1)), (16, .int (sp_days ρ 4)), (15, .int (lw_m ρ f (nI vi) (nI wa))), (14, .int wm), (11, .int (nI hh)), (10, .int (nI r)), (9, .int (nI pp)), (8, .int (nI f)), (7, .int (nI wa)), (6, .int (nI vi)), (5, .int (nI kx)), (4, .ref (y1.1 + 1)), (3, .ref y2.1), (2, .ref y1.1), (1, .int (nI tm)), (0, .ref b)]) hx hb dL_law_438 hl (by decide) rfl (fun ls hl => ?_)
  exact kK _ _ hB hS ls (lv_sub hl [0, 2, 3, 4, 5, 6, 7, 8, 9, 10, 11, 12, 13, 14, 15, 16, 17, 18] rfl)
set_option maxHeartbeats 4000000 in
set_option maxRecDepth 100000 in
/-- who is next -/
theorem law_next {p : Program} {l : Launch} {e : Env} {s : State} {m : MethodId} {below : List Frame} {meth : Method} {c0 : Code} {Q : State → Prop} {cells slots : Nat} {D : va_G} {d : hs_Dm} {cB cW : ClassId} {b N : Nat} {xs : Nat → Int32} {y1 y2 : lw_Y} (G : lw_N p s m c0 D d cB cW b N xs) (hG : lw_G s.heap.size b y1 y2) (hcs : cells ≤ room_1.cells ∧ slots ≤ room_1.slots) {k1 k2 dd : Nat} {ρ τ1 τ2 : hs_St} (hI : lw_I ρ dd) (tm kx vi wa f pp r hh : Nat) (hvi : vi ≤ 2000) (hwa : wa ≤ 40) (hf : f < 5) (hpp : pp < 4) (hr : r < 3) (hhh : hh ≤ 9) {wm fm : Int32} (M : Nat) {H : Heap} {locs : List Loc} (hB : lw_B D d b y1 y2 k1 k2 ρ τ1 ρ τ2 H) (hS : va_S (rg_A s.heap.size) s.heap H locs) {ls : Array Slot} (hl : lv_has ls 22 [(20, .int fm), (18, .int (nI M)), (17, .int ((sp_best ρ 5 4).1)), (16, .int (sp_days ρ 4)), (15, .int (lw_m ρ f (nI vi) (nI wa))), (14, .int wm), (11, .int (nI hh)), (10, .int (nI r)), (9, .int (nI pp)), (8, .int (nI f)), (7, .int (nI wa)), (6, .int (nI vi)), (5, .int (nI kx)), (4, .ref (y1.1 + 1)), (3, .ref y2.1), (2, .ref y1.1), (1, .int (nI tm)), (0, .ref b)]) (kK : ∀ (H : Heap) (locs : List Loc), lw_B D d b y1 y2 k1 k2 ρ τ1 ρ τ2 H → va_S (rg_A s.heap.size) s.heap H locs → ∀ ls : Array Slot, lv_has ls 22 [(20, .int fm), (18, .int (nI M)), (16, .int (sp_days ρ 4)), (15, .int (lw_m ρ f (nI vi) (nI wa))), (14, .int wm), (11, .int (nI hh)), (10, .int (nI r)), (9, .int (nI pp)), (8, .int (nI f)), (7, .int (nI wa)), (6, .int (nI vi)), (5, .int (nI kx)), (4, .ref (y1.1 + 1)), (3, .ref y2.1), (2, .ref y1.1), (1, .int (nI tm)), (0, .ref b)] → W p l e room_1 s m #[Value.ref b] below meth c0 H locs cells slots Q (F0 m 470 ls [])) : W p l e room_1 s m #[Value.ref b] below meth c0 H locs cells slots Q (F0 m 440 ls []) := by
  obtain ⟨hx, hb, hml, hown, hts, hE, hN31⟩ := id G
  refine lv_iload hx hb dL_law_440 (lv_at hl 2 rfl) ?_
  refine lv_if_lt (tgt := 470) hx hb dL_law_442 (by decide) (fun c_442 => ?_) (fun c_442 => ?_)
  · exact kK _ _ hB hS ls (lv_sub hl [0, 1, 3, 4, 5, 6, 7, 8, 9, 10, 11, 12, 13, 14, 15, 16, 17] rfl)
  · obtain ⟨q, hq4, eq_, hc_, hno⟩ := lw_next c_442
    rw [eq_] at hl
    refine lv_aload hx hb dL_law_445 (lv_at hl 13 rfl) ?_
    refine lv_iload hx hb dL_law_447 (lv_at hl 2 rfl) ?_
    refine lv_bipush (v := 6) hx hb dL_law_449 (by decide) ?_
    refine lw_rd (v := sp_ofP ρ 5 q 6) (As := [.int (nI q), .int 6]) ⟨hx, hb, hml, hown, hts⟩ (kX4_ofPerson_6 l D d (rc_L (y1.1 + 2)) ρ (lw_A (y1.1 + 2)) (y1.1 + 1) (rc_L (y1.1 + 69)) (lw_wA _) 4 5 3 hI.1 q (by omega)) (cwV 2 hts gL_law_X4_ofPerson rfl rfl rfl (by decide +kernel) ⟨Nat.le_of_ble_eq_true rfl, Nat.le_of_ble_eq_true rfl⟩) hE hG hB hS rfl hl.1 (Nat.le_of_ble_eq_true rfl) dL_law_451 hcs rfl (fun H locs hB hz hq hS => ?_)
    rw [show sp_ofP ρ 5 q 6 = 1 from if_neg hc_]
    refine lv_iconst (v := 1) hx hb dL_law_454 (by decide) ?_
    refine lv_icmp_ne (tgt := 468) hx hb dL_law_455 (by decide) (fun c_455 => ?_) (fun c_455 => ?_)
    · exact absurd (by decide +kernel) c_455
    · refine lv_aload hx hb dL_law_458 (lv_at hl 13 rfl) ?_
      refine lv_iload hx hb dL_law_460 (lv_at hl 2 rfl) ?_
      refine lw_st (fun r τ h => h.2.symm) (As := [.ref (y1.1 + 1), .int (nI q)]) ⟨hx, hb, hml, hown, hts⟩ (kL_isBehind l D d (rc_L (y1.1 + 2)) ρ (lw_A (y1.1 + 2)) (y1.1 + 1) (rc_L (y1.1 + 69)) (lw_wA _) hI.1 q hq4 hno) (va_cwS 2 hts gL_law_L_isBehind rfl rfl rfl (by decide +kernel) ⟨Nat.le_of_ble_eq_true rfl, Nat.le_of_ble_eq_true rfl⟩) hE hG hB hS rfl hl.1 (Nat.le_of_ble_eq_true rfl) dL_law_462 hcs rfl (fun r_ H locs hp hB hz hS => ?_)
      have er_ : r_ = 0 := hp.1.symm
      subst er_
      refine lv_if_eq (tgt := 470) hx hb dL_law_465 (by decide) (fun c_465 => ?_) (fun c_465 => ?_)
      · exact kK _ _ hB hS ls (lv_sub hl [0, 1, 3, 4, 5, 6, 7, 8, 9, 10, 11, 12, 13, 14, 15, 16, 17] rfl)
      · exact absurd (by decide +kernel) c_465
theorem lw_wm1 {wm : Int32} {A : Prop} (h : (wm = 1 ∧ A) ∨ (wm = 0 ∧ ¬ A)) (a : A) : 1 = wm := by
  rcases h with ⟨h1, -⟩ | ⟨-, h2⟩
  · exact h1.symm
  · exact absurd a h2
theorem lw_wm0 {wm : Int32} {A : Prop} (h : (wm = 1 ∧ A) ∨ (wm = 0 ∧ ¬ A)) (a : ¬ A) : 0 = wm := by
  rcases h with ⟨-, h1⟩ | ⟨h2, -⟩
  · exact absurd h1 a
  · exact h2.symm
theorem lp_le {x : Int32} (h : ¬ x ≤ 0) : 0 ≤ x := by
  rw [Int32.le_iff_toInt_le] at h ⊢
  omega
set_option maxHeartbeats 4000000 in
set_option maxRecDepth 100000 in
/-- the days one by one: the loop at 503 -/
theorem law_days {p : Program} {l : Launch} {e : Env} {s : State} {m : MethodId} {below : List Frame} {meth : Method} {c0 : Code} {Q : State → Prop} {cells slots : Nat} {D : va_G} {d : hs_Dm} {cB cW : ClassId} {b N : Nat} {xs : Nat → Int32} {y1 y2 : lw_Y} (G : lw_N p s m c0 D d cB cW b N xs) (hG : lw_G s.heap.size b y1 y2) (hcs : cells ≤ room_1.cells ∧ slots ≤ room_1.slots) {k1 k2 dd : Nat} {ρ σ1 τ1 τ2 : hs_St} (hI : lw_I ρ dd) (hdd : dd < 2 ^ 29) (tm kx vi wa f pp r hh : Nat) (hvi : vi ≤ 2000) (hwa : wa ≤ 40) (hf : f < 5) (hpp : pp < 4) (hr : r < 3) (hhh : hh ≤ 9) {wm : Int32} (hwm : (wm = 1 ∧ ρ 9 f 7 = 7) ∨ (wm = 0 ∧ ¬ ρ 9 f 7 = 7)) {fm : Int32} (M : Nat) (hM : M ≤ 40) (kK : ∀ (H : Heap) (locs : List Loc), lw_B D d b y1 y2 k1 k2 σ1 τ1 ((sp_pass ρ 4 5 (nI vi) (nI wa) M).2) τ2 H → va_S (rg_A s.heap.size) s.heap H locs → ∀ ls : Array Slot, lv_has ls 22 [(20, .int fm), (11, .int (nI hh)), (10, .int (nI r)), (9, .int (nI pp)), (8, .int (nI f)), (7, .int (nI wa)), (6, .int (nI vi)), (5, .int (nI kx)), (4, .ref (y1.1 + 1)), (3, .ref y2.1), (2, .ref y1.1), (1, .int (nI tm)), (0, .ref b)] → W p l e room_1 s m #[Value.ref b] below meth c0 H locs cells slots Q (F0 m 642 ls [])) : ∀ (kk n : Nat), n + kk = M → ∀ (H : Heap) (locs : List Loc), lw_B D d b y1 y2 k1 k2 σ1 τ1 ((sp_pass ρ 4 5 (nI vi) (nI wa) n).2) τ2 H → va_S (rg_A s.heap.size) s.heap H locs → ∀ ls : Array Slot, lv_has ls 22 [(21, .int (nI (n + 1))), (20, .int fm), (18, .int (nI M)), (16, .int (sp_days ρ 4)), (15, .int (lw_m ρ f (nI vi) (nI wa))), (14, .int wm), (11, .int (nI hh)), (10, .int (nI r)), (9, .int (nI pp)), (8, .int (nI f)), (7, .int (nI wa)), (6, .int (nI vi)), (5, .int (nI kx)), (4, .ref (y1.1 + 1)), (3, .ref y2.1), (2, .ref y1.1), (1, .int (nI tm)), (0, .ref b)] → W p l e room_1 s m #[Value.ref b] below meth c0 H locs cells slots Q (F0 m 503 ls []) := by
  obtain ⟨hx, hb, hml, hown, hts, hE, hN31⟩ := id G
  intro kk
  induction kk with
  | zero =>
    intro n hn H locs hB hS ls hl
    have hnM : n = M := by omega
    refine lv_iload hx hb dL_law_503 (lv_at hl 0 rfl) ?_
    refine lv_iload hx hb dL_law_505 (lv_at hl 2 rfl) ?_
    refine lv_icmp_gt (tgt := 642) hx hb dL_law_507 (by decide) (fun c_507 => ?_) (fun c_507 => ?_)
    · subst hnM
      exact kK _ _ hB hS ls (lv_sub hl [1, 6, 7, 8, 9, 10, 11, 12, 13, 14, 15, 16, 17] rfl)
    · exact absurd (nI_lt (a := M) (b := n + 1) (by omega) (by omega)) c_507
  | succ kk ih =>
    intro n hn H locs hB hS ls hl
    have hnM : n < M := by omega
    refine lv_iload hx hb dL_law_503 (lv_at hl 0 rfl) ?_
    refine lv_iload hx hb dL_law_505 (lv_at hl 2 rfl) ?_
    refine lv_icmp_gt (tgt := 642) hx hb dL_law_507 (by decide) (fun c_507 => ?_) (fun c_507 => ?_)
    · exact absurd c_507 (nI_nlt (a := M) (b := n + 1) (by omega) (by omega))
    · refine lv_aload_n hx hb dL_law_510 rfl (lv_at hl 14 rfl) ?_
      refine lw_get (y1 := y2) (y2 := y1) hx hb hts inlX5 hown hE hB.sw 0 (by decide) (hts (.fieldLink RL 14 "WaxrowLaw$Told" "m" "LWaxrow;") (by decide +kernel)) rfl (v := .ref (y2.1 + 1)) rfl dL_law_511 ?_
      refine lv_iconst (v := 1) hx hb dL_law_514 (by decide) ?_
      refine lv_iload hx hb dL_law_515 (lv_at hl 11 rfl) ?_
      refine lv_iload hx hb dL_law_517 (lv_at hl 10 rfl) ?_
      refine lw_wx (y1 := y2) (y2 := y1) (As := [.int 1, .int (nI vi), .int (nI wa)]) ⟨hx, hb, hml, hown, hts⟩ (kX4_pass l D d (rc_L (y2.1 + 2)) ((sp_pass ρ 4 5 (nI vi) (nI wa) n).2) (lw_A (y2.1 + 2)) (y2.1 + 1) (rc_L (y2.1 + 69)) (lw_wA _) 4 5 3 (lw_I_pass hI (nI vi) (nI wa) n (by omega)).1 1 (by decide) (by decide) (nI vi) (nI wa) (nI_pos (by omega)) (nI_le (b := 2000) hvi (by decide)) (nI_pos (by omega)) (nI_le (b := 40) hwa (by decide))) (cwV 3 hts gL_law_X4_pass rfl rfl rfl (by decide +kernel) ⟨Nat.le_of_ble_eq_true rfl, Nat.le_of_ble_eq_true rfl⟩) hE hG.sw hB.sw hS rfl hl.1 (Nat.le_of_ble_eq_true rfl) dL_law_519 hcs rfl (fun r_ τ_ H locs hp hB hz hq hS => ?_)
      obtain ⟨e1_, e2_⟩ := hp
      subst e2_
      have hB := hB.sw
      rw [← px_split] at hB
      refine lv_pop hx hb dL_law_522 rfl ?_
      refine lv_iload hx hb dL_law_523 (lv_at hl 4 rfl) ?_
      refine lv_if_le (tgt := 564) hx hb dL_law_525 (by decide) (fun c_525 => ?_) (fun c_525 => ?_)
      · refine lv_iload hx hb dL_law_564 (lv_at hl 4 rfl) ?_
        refine lv_if_ge (tgt := 595) hx hb dL_law_566 (by decide) (fun c_566 => ?_) (fun c_566 => ?_)
        · refine lv_iload hx hb dL_law_595 (lv_at hl 3 rfl) ?_
          refine lv_if_le (tgt := 636) hx hb dL_law_597 (by decide) (fun c_597 => ?_) (fun c_597 => ?_)
          · refine lv_iinc (v := nI (n + 1 + 1)) (lv' := [(21, .int (nI (n + 1 + 1))), (20, .int fm), (18, .int (nI M)), (16, .int (sp_days ρ 4)), (15, .int (lw_m ρ f (nI vi) (nI wa))), (14, .int wm), (11, .int (nI hh)), (10, .int (nI r)), (9, .int (nI pp)), (8, .int (nI f)), (7, .int (nI wa)), (6, .int (nI vi)), (5, .int (nI kx)), (4, .ref (y1.1 + 1)), (3, .ref y2.1), (2, .ref y1.1), (1, .int (nI tm)), (0, .ref b)]) hx hb dL_law_636 hl (k := 0) rfl (nI_succ _).symm (by decide) rfl (fun ls hl => ?_)
            refine lv_goto (tgt := 503) hx hb dL_law_639 (by decide) ?_
            exact ih (n + 1) (by omega) _ _ hB hS ls (lv_sub hl [0, 1, 2, 3, 4, 5, 6, 7, 8, 9, 10, 11, 12, 13, 14, 15, 16, 17] rfl)
          · refine lv_aload_n hx hb dL_law_600 rfl (lv_at hl 14 rfl) ?_
            refine lw_get (y1 := y2) (y2 := y1) hx hb hts inlX5 hown hE hB.sw 0 (by decide) (hts (.fieldLink RL 14 "WaxrowLaw$Told" "m" "LWaxrow;") (by decide +kernel)) rfl (v := .ref (y2.1 + 1)) rfl dL_law_601 ?_
            refine lv_iconst (v := 4) hx hb dL_law_604 (by decide) ?_
            refine lv_iconst (v := 2) hx hb dL_law_605 (by decide) ?_
            refine lw_rd (y1 := y2) (y2 := y1) (v := sp_ofF ((sp_pass ρ 4 5 (nI vi) (nI wa) (n + 1)).2) 4 2) (As := [.int 4, .int 2]) ⟨hx, hb, hml, hown, hts⟩ (kX4_ofFigure_2 l D d (rc_L (y2.1 + 2)) ((sp_pass ρ 4 5 (nI vi) (nI wa) (n + 1)).2) (lw_A (y2.1 + 2)) (y2.1 + 1) (rc_L (y2.1 + 69)) (lw_wA _) 4 5 3 (lw_I_pass hI (nI vi) (nI wa) (n + 1) (by omega)).1 4 (by omega)) (cwV 2 hts gL_law_X4_ofFigure rfl rfl rfl (by decide +kernel) ⟨Nat.le_of_ble_eq_true rfl, Nat.le_of_ble_eq_true rfl⟩) hE hG.sw hB.sw hS rfl hl.1 (Nat.le_of_ble_eq_true rfl) dL_law_606 hcs rfl (fun H locs hB hz hq hS => ?_)
            have hB := hB.sw
            refine lv_bipush (v := 6) hx hb dL_law_609 (by decide) ?_
            refine lv_icmp_ne (tgt := 618) hx hb dL_law_611 (by decide) (fun c_611 => ?_) (fun c_611 => ?_)
            · refine lv_iconst (v := 0) hx hb dL_law_618 (by decide) ?_
              refine lv_iload hx hb dL_law_619 (lv_at hl 0 rfl) ?_
              refine lv_iload hx hb dL_law_621 (lv_at hl 3 rfl) ?_
              refine lv_icmp_lt (tgt := 630) hx hb dL_law_623 (by decide) (fun c_623 => ?_) (fun c_623 => ?_)
              · refine lv_iconst (v := 0) hx hb dL_law_630 (by decide) ?_
                refine lv_icmp_eq (tgt := 636) hx hb dL_law_631 (by decide) (fun c_631 => ?_) (fun c_631 => ?_)
                · refine lv_iinc (v := nI (n + 1 + 1)) (lv' := [(21, .int (nI (n + 1 + 1))), (20, .int fm), (18, .int (nI M)), (16, .int (sp_days ρ 4)), (15, .int (lw_m ρ f (nI vi) (nI wa))), (14, .int wm), (11, .int (nI hh)), (10, .int (nI r)), (9, .int (nI pp)), (8, .int (nI f)), (7, .int (nI wa)), (6, .int (nI vi)), (5, .int (nI kx)), (4, .ref (y1.1 + 1)), (3, .ref y2.1), (2, .ref y1.1), (1, .int (nI tm)), (0, .ref b)]) hx hb dL_law_636 hl (k := 0) rfl (nI_succ _).symm (by decide) rfl (fun ls hl => ?_)
                  refine lv_goto (tgt := 503) hx hb dL_law_639 (by decide) ?_
                  exact ih (n + 1) (by omega) _ _ hB hS ls (lv_sub hl [0, 1, 2, 3, 4, 5, 6, 7, 8, 9, 10, 11, 12, 13, 14, 15, 16, 17] rfl)
                · exact absurd (by decide +kernel) c_631
              · refine lv_iconst (v := 1) hx hb dL_law_626 (by decide) ?_
                refine lv_goto (tgt := 631) hx hb dL_law_627 (by decide) ?_
                refine lv_icmp_eq (tgt := 636) hx hb dL_law_631 (by decide) (fun c_631 => ?_) (fun c_631 => ?_)
                · exact absurd c_631 (by decide +kernel)
                · exact absurd ((lw_r_pos hI c_597 (by omega)).mpr c_623) c_611
            · refine lv_iconst (v := 1) hx hb dL_law_614 (by decide) ?_
              refine lv_goto (tgt := 619) hx hb dL_law_615 (by decide) ?_
              refine lv_iload hx hb dL_law_619 (lv_at hl 0 rfl) ?_
              refine lv_iload hx hb dL_law_621 (lv_at hl 3 rfl) ?_
              refine lv_icmp_lt (tgt := 630) hx hb dL_law_623 (by decide) (fun c_623 => ?_) (fun c_623 => ?_)
              · refine lv_iconst (v := 0) hx hb dL_law_630 (by decide) ?_
                refine lv_icmp_eq (tgt := 636) hx hb dL_law_631 (by decide) (fun c_631 => ?_) (fun c_631 => ?_)
                · exact absurd c_631 (by decide +kernel)
                · exact absurd c_623 ((lw_r_pos hI c_597 (by omega)).mp c_611)
              · refine lv_iconst (v := 1) hx hb dL_law_626 (by decide) ?_
                refine lv_goto (tgt := 631) hx hb dL_law_627 (by decide) ?_
                refine lv_icmp_eq (tgt := 636) hx hb dL_law_631 (by decide) (fun c_631 => ?_) (fun c_631 => ?_)
                · refine lv_iinc (v := nI (n + 1 + 1)) (lv' := [(21, .int (nI (n + 1 + 1))), (20, .int fm), (18, .int (nI M)), (16, .int (sp_days ρ 4)), (15, .int (lw_m ρ f (nI vi) (nI wa))), (14, .int wm), (11, .int (nI hh)), (10, .int (nI r)), (9, .int (nI pp)), (8, .int (nI f)), (7, .int (nI wa)), (6, .int (nI vi)), (5, .int (nI kx)), (4, .ref (y1.1 + 1)), (3, .ref y2.1), (2, .ref y1.1), (1, .int (nI tm)), (0, .ref b)]) hx hb dL_law_636 hl (k := 0) rfl (nI_succ _).symm (by decide) rfl (fun ls hl => ?_)
                  refine lv_goto (tgt := 503) hx hb dL_law_639 (by decide) ?_
                  exact ih (n + 1) (by omega) _ _ hB hS ls (lv_sub hl [0, 1, 2, 3, 4, 5, 6, 7, 8, 9, 10, 11, 12, 13, 14, 15, 16, 17] rfl)
                · exact absurd (by decide +kernel) c_631
        · refine lv_aload_n hx hb dL_law_569 rfl (lv_at hl 14 rfl) ?_
          refine lw_get (y1 := y2) (y2 := y1) hx hb hts inlX5 hown hE hB.sw 0 (by decide) (hts (.fieldLink RL 14 "WaxrowLaw$Told" "m" "LWaxrow;") (by decide +kernel)) rfl (v := .ref (y2.1 + 1)) rfl dL_law_570 ?_
          refine lv_iload hx hb dL_law_573 (lv_at hl 9 rfl) ?_
          refine lv_bipush (v := 8) hx hb dL_law_575 (by decide) ?_
          refine lw_rd (y1 := y2) (y2 := y1) (v := sp_ofF ((sp_pass ρ 4 5 (nI vi) (nI wa) (n + 1)).2) f 8) (As := [.int (nI f), .int 8]) ⟨hx, hb, hml, hown, hts⟩ (kX4_ofFigure_8 l D d (rc_L (y2.1 + 2)) ((sp_pass ρ 4 5 (nI vi) (nI wa) (n + 1)).2) (lw_A (y2.1 + 2)) (y2.1 + 1) (rc_L (y2.1 + 69)) (lw_wA _) 4 5 3 (lw_I_pass hI (nI vi) (nI wa) (n + 1) (by omega)).1 f (by omega)) (cwV 2 hts gL_law_X4_ofFigure rfl rfl rfl (by decide +kernel) ⟨Nat.le_of_ble_eq_true rfl, Nat.le_of_ble_eq_true rfl⟩) hE hG.sw hB.sw hS rfl hl.1 (Nat.le_of_ble_eq_true rfl) dL_law_577 hcs rfl (fun H locs hB hz hq hS => ?_)
          have hB := hB.sw
          refine lv_bipush (v := 7) hx hb dL_law_580 (by decide) ?_
          refine lv_icmp_ne (tgt := 589) hx hb dL_law_582 (by decide) (fun c_582 => ?_) (fun c_582 => ?_)
          · refine lv_iconst (v := 0) hx hb dL_law_589 (by decide) ?_
            refine lv_iload hx hb dL_law_590 (lv_at hl 5 rfl) ?_
            refine lv_icmp_ne (tgt := 634) hx hb dL_law_592 (by decide) (fun c_592 => ?_) (fun c_592 => ?_)
            · exact absurd (lw_wm0 hwm (fun z => c_582 ((lw_m_neg hI hf (lp_lt c_566) (n := n + 1) (by omega)).mpr z))) c_592
            · refine lv_iload hx hb dL_law_595 (lv_at hl 3 rfl) ?_
              refine lv_if_le (tgt := 636) hx hb dL_law_597 (by decide) (fun c_597 => ?_) (fun c_597 => ?_)
              · refine lv_iinc (v := nI (n + 1 + 1)) (lv' := [(21, .int (nI (n + 1 + 1))), (20, .int fm), (18, .int (nI M)), (16, .int (sp_days ρ 4)), (15, .int (lw_m ρ f (nI vi) (nI wa))), (14, .int wm), (11, .int (nI hh)), (10, .int (nI r)), (9, .int (nI pp)), (8, .int (nI f)), (7, .int (nI wa)), (6, .int (nI vi)), (5, .int (nI kx)), (4, .ref (y1.1 + 1)), (3, .ref y2.1), (2, .ref y1.1), (1, .int (nI tm)), (0, .ref b)]) hx hb dL_law_636 hl (k := 0) rfl (nI_succ _).symm (by decide) rfl (fun ls hl => ?_)
                refine lv_goto (tgt := 503) hx hb dL_law_639 (by decide) ?_
                exact ih (n + 1) (by omega) _ _ hB hS ls (lv_sub hl [0, 1, 2, 3, 4, 5, 6, 7, 8, 9, 10, 11, 12, 13, 14, 15, 16, 17] rfl)
              · refine lv_aload_n hx hb dL_law_600 rfl (lv_at hl 14 rfl) ?_
                refine lw_get (y1 := y2) (y2 := y1) hx hb hts inlX5 hown hE hB.sw 0 (by decide) (hts (.fieldLink RL 14 "WaxrowLaw$Told" "m" "LWaxrow;") (by decide +kernel)) rfl (v := .ref (y2.1 + 1)) rfl dL_law_601 ?_
                refine lv_iconst (v := 4) hx hb dL_law_604 (by decide) ?_
                refine lv_iconst (v := 2) hx hb dL_law_605 (by decide) ?_
                refine lw_rd (y1 := y2) (y2 := y1) (v := sp_ofF ((sp_pass ρ 4 5 (nI vi) (nI wa) (n + 1)).2) 4 2) (As := [.int 4, .int 2]) ⟨hx, hb, hml, hown, hts⟩ (kX4_ofFigure_2 l D d (rc_L (y2.1 + 2)) ((sp_pass ρ 4 5 (nI vi) (nI wa) (n + 1)).2) (lw_A (y2.1 + 2)) (y2.1 + 1) (rc_L (y2.1 + 69)) (lw_wA _) 4 5 3 (lw_I_pass hI (nI vi) (nI wa) (n + 1) (by omega)).1 4 (by omega)) (cwV 2 hts gL_law_X4_ofFigure rfl rfl rfl (by decide +kernel) ⟨Nat.le_of_ble_eq_true rfl, Nat.le_of_ble_eq_true rfl⟩) hE hG.sw hB.sw hS rfl hl.1 (Nat.le_of_ble_eq_true rfl) dL_law_606 hcs rfl (fun H locs hB hz hq hS => ?_)
                have hB := hB.sw
                refine lv_bipush (v := 6) hx hb dL_law_609 (by decide) ?_
                refine lv_icmp_ne (tgt := 618) hx hb dL_law_611 (by decide) (fun c_611 => ?_) (fun c_611 => ?_)
                · refine lv_iconst (v := 0) hx hb dL_law_618 (by decide) ?_
                  refine lv_iload hx hb dL_law_619 (lv_at hl 0 rfl) ?_
                  refine lv_iload hx hb dL_law_621 (lv_at hl 3 rfl) ?_
                  refine lv_icmp_lt (tgt := 630) hx hb dL_law_623 (by decide) (fun c_623 => ?_) (fun c_623 => ?_)
                  · refine lv_iconst (v := 0) hx hb dL_law_630 (by decide) ?_
                    refine lv_icmp_eq (tgt := 636) hx hb dL_law_631 (by decide) (fun c_631 => ?_) (fun c_631 => ?_)
                    · refine lv_iinc (v := nI (n + 1 + 1)) (lv' := [(21, .int (nI (n + 1 + 1))), (20, .int fm), (18, .int (nI M)), (16, .int (sp_days ρ 4)), (15, .int (lw_m ρ f (nI vi) (nI wa))), (14, .int wm), (11, .int (nI hh)), (10, .int (nI r)), (9, .int (nI pp)), (8, .int (nI f)), (7, .int (nI wa)), (6, .int (nI vi)), (5, .int (nI kx)), (4, .ref (y1.1 + 1)), (3, .ref y2.1), (2, .ref y1.1), (1, .int (nI tm)), (0, .ref b)]) hx hb dL_law_636 hl (k := 0) rfl (nI_succ _).symm (by decide) rfl (fun ls hl => ?_)
                      refine lv_goto (tgt := 503) hx hb dL_law_639 (by decide) ?_
                      exact ih (n + 1) (by omega) _ _ hB hS ls (lv_sub hl [0, 1, 2, 3, 4, 5, 6, 7, 8, 9, 10, 11, 12, 13, 14, 15, 16, 17] rfl)
                    · exact absurd (by decide +kernel) c_631
                  · refine lv_iconst (v := 1) hx hb dL_law_626 (by decide) ?_
                    refine lv_goto (tgt := 631) hx hb dL_law_627 (by decide) ?_
                    refine lv_icmp_eq (tgt := 636) hx hb dL_law_631 (by decide) (fun c_631 => ?_) (fun c_631 => ?_)
                    · exact absurd c_631 (by decide +kernel)
                    · exact absurd ((lw_r_pos hI c_597 (by omega)).mpr c_623) c_611
                · refine lv_iconst (v := 1) hx hb dL_law_614 (by decide) ?_
                  refine lv_goto (tgt := 619) hx hb dL_law_615 (by decide) ?_
                  refine lv_iload hx hb dL_law_619 (lv_at hl 0 rfl) ?_
                  refine lv_iload hx hb dL_law_621 (lv_at hl 3 rfl) ?_
                  refine lv_icmp_lt (tgt := 630) hx hb dL_law_623 (by decide) (fun c_623 => ?_) (fun c_623 => ?_)
                  · refine lv_iconst (v := 0) hx hb dL_law_630 (by decide) ?_
                    refine lv_icmp_eq (tgt := 636) hx hb dL_law_631 (by decide) (fun c_631 => ?_) (fun c_631 => ?_)
                    · exact absurd c_631 (by decide +kernel)
                    · exact absurd c_623 ((lw_r_pos hI c_597 (by omega)).mp c_611)
                  · refine lv_iconst (v := 1) hx hb dL_law_626 (by decide) ?_
                    refine lv_goto (tgt := 631) hx hb dL_law_627 (by decide) ?_
                    refine lv_icmp_eq (tgt := 636) hx hb dL_law_631 (by decide) (fun c_631 => ?_) (fun c_631 => ?_)
                    · refine lv_iinc (v := nI (n + 1 + 1)) (lv' := [(21, .int (nI (n + 1 + 1))), (20, .int fm), (18, .int (nI M)), (16, .int (sp_days ρ 4)), (15, .int (lw_m ρ f (nI vi) (nI wa))), (14, .int wm), (11, .int (nI hh)), (10, .int (nI r)), (9, .int (nI pp)), (8, .int (nI f)), (7, .int (nI wa)), (6, .int (nI vi)), (5, .int (nI kx)), (4, .ref (y1.1 + 1)), (3, .ref y2.1), (2, .ref y1.1), (1, .int (nI tm)), (0, .ref b)]) hx hb dL_law_636 hl (k := 0) rfl (nI_succ _).symm (by decide) rfl (fun ls hl => ?_)
                      refine lv_goto (tgt := 503) hx hb dL_law_639 (by decide) ?_
                      exact ih (n + 1) (by omega) _ _ hB hS ls (lv_sub hl [0, 1, 2, 3, 4, 5, 6, 7, 8, 9, 10, 11, 12, 13, 14, 15, 16, 17] rfl)
                    · exact absurd (by decide +kernel) c_631
          · refine lv_iconst (v := 1) hx hb dL_law_585 (by decide) ?_
            refine lv_goto (tgt := 590) hx hb dL_law_586 (by decide) ?_
            refine lv_iload hx hb dL_law_590 (lv_at hl 5 rfl) ?_
            refine lv_icmp_ne (tgt := 634) hx hb dL_law_592 (by decide) (fun c_592 => ?_) (fun c_592 => ?_)
            · exact absurd (lw_wm1 hwm ((lw_m_neg hI hf (lp_lt c_566) (n := n + 1) (by omega)).mp c_582)) c_592
            · refine lv_iload hx hb dL_law_595 (lv_at hl 3 rfl) ?_
              refine lv_if_le (tgt := 636) hx hb dL_law_597 (by decide) (fun c_597 => ?_) (fun c_597 => ?_)
              · refine lv_iinc (v := nI (n + 1 + 1)) (lv' := [(21, .int (nI (n + 1 + 1))), (20, .int fm), (18, .int (nI M)), (16, .int (sp_days ρ 4)), (15, .int (lw_m ρ f (nI vi) (nI wa))), (14, .int wm), (11, .int (nI hh)), (10, .int (nI r)), (9, .int (nI pp)), (8, .int (nI f)), (7, .int (nI wa)), (6, .int (nI vi)), (5, .int (nI kx)), (4, .ref (y1.1 + 1)), (3, .ref y2.1), (2, .ref y1.1), (1, .int (nI tm)), (0, .ref b)]) hx hb dL_law_636 hl (k := 0) rfl (nI_succ _).symm (by decide) rfl (fun ls hl => ?_)
                refine lv_goto (tgt := 503) hx hb dL_law_639 (by decide) ?_
                exact ih (n + 1) (by omega) _ _ hB hS ls (lv_sub hl [0, 1, 2, 3, 4, 5, 6, 7, 8, 9, 10, 11, 12, 13, 14, 15, 16, 17] rfl)
              · refine lv_aload_n hx hb dL_law_600 rfl (lv_at hl 14 rfl) ?_
                refine lw_get (y1 := y2) (y2 := y1) hx hb hts inlX5 hown hE hB.sw 0 (by decide) (hts (.fieldLink RL 14 "WaxrowLaw$Told" "m" "LWaxrow;") (by decide +kernel)) rfl (v := .ref (y2.1 + 1)) rfl dL_law_601 ?_
                refine lv_iconst (v := 4) hx hb dL_law_604 (by decide) ?_
                refine lv_iconst (v := 2) hx hb dL_law_605 (by decide) ?_
                refine lw_rd (y1 := y2) (y2 := y1) (v := sp_ofF ((sp_pass ρ 4 5 (nI vi) (nI wa) (n + 1)).2) 4 2) (As := [.int 4, .int 2]) ⟨hx, hb, hml, hown, hts⟩ (kX4_ofFigure_2 l D d (rc_L (y2.1 + 2)) ((sp_pass ρ 4 5 (nI vi) (nI wa) (n + 1)).2) (lw_A (y2.1 + 2)) (y2.1 + 1) (rc_L (y2.1 + 69)) (lw_wA _) 4 5 3 (lw_I_pass hI (nI vi) (nI wa) (n + 1) (by omega)).1 4 (by omega)) (cwV 2 hts gL_law_X4_ofFigure rfl rfl rfl (by decide +kernel) ⟨Nat.le_of_ble_eq_true rfl, Nat.le_of_ble_eq_true rfl⟩) hE hG.sw hB.sw hS rfl hl.1 (Nat.le_of_ble_eq_true rfl) dL_law_606 hcs rfl (fun H locs hB hz hq hS => ?_)
                have hB := hB.sw
                refine lv_bipush (v := 6) hx hb dL_law_609 (by decide) ?_
                refine lv_icmp_ne (tgt := 618) hx hb dL_law_611 (by decide) (fun c_611 => ?_) (fun c_611 => ?_)
                · refine lv_iconst (v := 0) hx hb dL_law_618 (by decide) ?_
                  refine lv_iload hx hb dL_law_619 (lv_at hl 0 rfl) ?_
                  refine lv_iload hx hb dL_law_621 (lv_at hl 3 rfl) ?_
                  refine lv_icmp_lt (tgt := 630) hx hb dL_law_623 (by decide) (fun c_623 => ?_) (fun c_623 => ?_)
                  · refine lv_iconst (v := 0) hx hb dL_law_630 (by decide) ?_
                    refine lv_icmp_eq (tgt := 636) hx hb dL_law_631 (by decide) (fun c_631 => ?_) (fun c_631 => ?_)
                    · refine lv_iinc (v := nI (n + 1 + 1)) (lv' := [(21, .int (nI (n + 1 + 1))), (20, .int fm), (18, .int (nI M)), (16, .int (sp_days ρ 4)), (15, .int (lw_m ρ f (nI vi) (nI wa))), (14, .int wm), (11, .int (nI hh)), (10, .int (nI r)), (9, .int (nI pp)), (8, .int (nI f)), (7, .int (nI wa)), (6, .int (nI vi)), (5, .int (nI kx)), (4, .ref (y1.1 + 1)), (3, .ref y2.1), (2, .ref y1.1), (1, .int (nI tm)), (0, .ref b)]) hx hb dL_law_636 hl (k := 0) rfl (nI_succ _).symm (by decide) rfl (fun ls hl => ?_)
                      refine lv_goto (tgt := 503) hx hb dL_law_639 (by decide) ?_
                      exact ih (n + 1) (by omega) _ _ hB hS ls (lv_sub hl [0, 1, 2, 3, 4, 5, 6, 7, 8, 9, 10, 11, 12, 13, 14, 15, 16, 17] rfl)
                    · exact absurd (by decide +kernel) c_631
                  · refine lv_iconst (v := 1) hx hb dL_law_626 (by decide) ?_
                    refine lv_goto (tgt := 631) hx hb dL_law_627 (by decide) ?_
                    refine lv_icmp_eq (tgt := 636) hx hb dL_law_631 (by decide) (fun c_631 => ?_) (fun c_631 => ?_)
                    · exact absurd c_631 (by decide +kernel)
                    · exact absurd ((lw_r_pos hI c_597 (by omega)).mpr c_623) c_611
                · refine lv_iconst (v := 1) hx hb dL_law_614 (by decide) ?_
                  refine lv_goto (tgt := 619) hx hb dL_law_615 (by decide) ?_
                  refine lv_iload hx hb dL_law_619 (lv_at hl 0 rfl) ?_
                  refine lv_iload hx hb dL_law_621 (lv_at hl 3 rfl) ?_
                  refine lv_icmp_lt (tgt := 630) hx hb dL_law_623 (by decide) (fun c_623 => ?_) (fun c_623 => ?_)
                  · refine lv_iconst (v := 0) hx hb dL_law_630 (by decide) ?_
                    refine lv_icmp_eq (tgt := 636) hx hb dL_law_631 (by decide) (fun c_631 => ?_) (fun c_631 => ?_)
                    · exact absurd c_631 (by decide +kernel)
                    · exact absurd c_623 ((lw_r_pos hI c_597 (by omega)).mp c_611)
                  · refine lv_iconst (v := 1) hx hb dL_law_626 (by decide) ?_
                    refine lv_goto (tgt := 631) hx hb dL_law_627 (by decide) ?_
                    refine lv_icmp_eq (tgt := 636) hx hb dL_law_631 (by decide) (fun c_631 => ?_) (fun c_631 => ?_)
                    · refine lv_iinc (v := nI (n + 1 + 1)) (lv' := [(21, .int (nI (n + 1 + 1))), (20, .int fm), (18, .int (nI M)), (16, .int (sp_days ρ 4)), (15, .int (lw_m ρ f (nI vi) (nI wa))), (14, .int wm), (11, .int (nI hh)), (10, .int (nI r)), (9, .int (nI pp)), (8, .int (nI f)), (7, .int (nI wa)), (6, .int (nI vi)), (5, .int (nI kx)), (4, .ref (y1.1 + 1)), (3, .ref y2.1), (2, .ref y1.1), (1, .int (nI tm)), (0, .ref b)]) hx hb dL_law_636 hl (k := 0) rfl (nI_succ _).symm (by decide) rfl (fun ls hl => ?_)
                      refine lv_goto (tgt := 503) hx hb dL_law_639 (by decide) ?_
                      exact ih (n + 1) (by omega) _ _ hB hS ls (lv_sub hl [0, 1, 2, 3, 4, 5, 6, 7, 8, 9, 10, 11, 12, 13, 14, 15, 16, 17] rfl)
                    · exact absurd (by decide +kernel) c_631
      · refine lv_aload_n hx hb dL_law_528 rfl (lv_at hl 14 rfl) ?_
        refine lw_get (y1 := y2) (y2 := y1) hx hb hts inlX5 hown hE hB.sw 0 (by decide) (hts (.fieldLink RL 14 "WaxrowLaw$Told" "m" "LWaxrow;") (by decide +kernel)) rfl (v := .ref (y2.1 + 1)) rfl dL_law_529 ?_
        refine lv_iload hx hb dL_law_532 (lv_at hl 9 rfl) ?_
        refine lv_bipush (v := 8) hx hb dL_law_534 (by decide) ?_
        refine lw_rd (y1 := y2) (y2 := y1) (v := sp_ofF ((sp_pass ρ 4 5 (nI vi) (nI wa) (n + 1)).2) f 8) (As := [.int (nI f), .int 8]) ⟨hx, hb, hml, hown, hts⟩ (kX4_ofFigure_8 l D d (rc_L (y2.1 + 2)) ((sp_pass ρ 4 5 (nI vi) (nI wa) (n + 1)).2) (lw_A (y2.1 + 2)) (y2.1 + 1) (rc_L (y2.1 + 69)) (lw_wA _) 4 5 3 (lw_I_pass hI (nI vi) (nI wa) (n + 1) (by omega)).1 f (by omega)) (cwV 2 hts gL_law_X4_ofFigure rfl rfl rfl (by decide +kernel) ⟨Nat.le_of_ble_eq_true rfl, Nat.le_of_ble_eq_true rfl⟩) hE hG.sw hB.sw hS rfl hl.1 (Nat.le_of_ble_eq_true rfl) dL_law_536 hcs rfl (fun H locs hB hz hq hS => ?_)
        have hB := hB.sw
        refine lv_bipush (v := 7) hx hb dL_law_539 (by decide) ?_
        refine lv_icmp_ne (tgt := 548) hx hb dL_law_541 (by decide) (fun c_541 => ?_) (fun c_541 => ?_)
        · refine lv_iconst (v := 0) hx hb dL_law_548 (by decide) ?_
          refine lv_iload hx hb dL_law_549 (lv_at hl 0 rfl) ?_
          refine lv_iload hx hb dL_law_551 (lv_at hl 4 rfl) ?_
          refine lv_icmp_lt (tgt := 560) hx hb dL_law_553 (by decide) (fun c_553 => ?_) (fun c_553 => ?_)
          · refine lv_iconst (v := 0) hx hb dL_law_560 (by decide) ?_
            refine lv_icmp_ne (tgt := 634) hx hb dL_law_561 (by decide) (fun c_561 => ?_) (fun c_561 => ?_)
            · exact absurd (by decide +kernel) c_561
            · refine lv_iload hx hb dL_law_564 (lv_at hl 4 rfl) ?_
              refine lv_if_ge (tgt := 595) hx hb dL_law_566 (by decide) (fun c_566 => ?_) (fun c_566 => ?_)
              · refine lv_iload hx hb dL_law_595 (lv_at hl 3 rfl) ?_
                refine lv_if_le (tgt := 636) hx hb dL_law_597 (by decide) (fun c_597 => ?_) (fun c_597 => ?_)
                · refine lv_iinc (v := nI (n + 1 + 1)) (lv' := [(21, .int (nI (n + 1 + 1))), (20, .int fm), (18, .int (nI M)), (16, .int (sp_days ρ 4)), (15, .int (lw_m ρ f (nI vi) (nI wa))), (14, .int wm), (11, .int (nI hh)), (10, .int (nI r)), (9, .int (nI pp)), (8, .int (nI f)), (7, .int (nI wa)), (6, .int (nI vi)), (5, .int (nI kx)), (4, .ref (y1.1 + 1)), (3, .ref y2.1), (2, .ref y1.1), (1, .int (nI tm)), (0, .ref b)]) hx hb dL_law_636 hl (k := 0) rfl (nI_succ _).symm (by decide) rfl (fun ls hl => ?_)
                  refine lv_goto (tgt := 503) hx hb dL_law_639 (by decide) ?_
                  exact ih (n + 1) (by omega) _ _ hB hS ls (lv_sub hl [0, 1, 2, 3, 4, 5, 6, 7, 8, 9, 10, 11, 12, 13, 14, 15, 16, 17] rfl)
                · refine lv_aload_n hx hb dL_law_600 rfl (lv_at hl 14 rfl) ?_
                  refine lw_get (y1 := y2) (y2 := y1) hx hb hts inlX5 hown hE hB.sw 0 (by decide) (hts (.fieldLink RL 14 "WaxrowLaw$Told" "m" "LWaxrow;") (by decide +kernel)) rfl (v := .ref (y2.1 + 1)) rfl dL_law_601 ?_
                  refine lv_iconst (v := 4) hx hb dL_law_604 (by decide) ?_
                  refine lv_iconst (v := 2) hx hb dL_law_605 (by decide) ?_
                  refine lw_rd (y1 := y2) (y2 := y1) (v := sp_ofF ((sp_pass ρ 4 5 (nI vi) (nI wa) (n + 1)).2) 4 2) (As := [.int 4, .int 2]) ⟨hx, hb, hml, hown, hts⟩ (kX4_ofFigure_2 l D d (rc_L (y2.1 + 2)) ((sp_pass ρ 4 5 (nI vi) (nI wa) (n + 1)).2) (lw_A (y2.1 + 2)) (y2.1 + 1) (rc_L (y2.1 + 69)) (lw_wA _) 4 5 3 (lw_I_pass hI (nI vi) (nI wa) (n + 1) (by omega)).1 4 (by omega)) (cwV 2 hts gL_law_X4_ofFigure rfl rfl rfl (by decide +kernel) ⟨Nat.le_of_ble_eq_true rfl, Nat.le_of_ble_eq_true rfl⟩) hE hG.sw hB.sw hS rfl hl.1 (Nat.le_of_ble_eq_true rfl) dL_law_606 hcs rfl (fun H locs hB hz hq hS => ?_)
                  have hB := hB.sw
                  refine lv_bipush (v := 6) hx hb dL_law_609 (by decide) ?_
                  refine lv_icmp_ne (tgt := 618) hx hb dL_law_611 (by decide) (fun c_611 => ?_) (fun c_611 => ?_)
                  · refine lv_iconst (v := 0) hx hb dL_law_618 (by decide) ?_
                    refine lv_iload hx hb dL_law_619 (lv_at hl 0 rfl) ?_
                    refine lv_iload hx hb dL_law_621 (lv_at hl 3 rfl) ?_
                    refine lv_icmp_lt (tgt := 630) hx hb dL_law_623 (by decide) (fun c_623 => ?_) (fun c_623 => ?_)
                    · refine lv_iconst (v := 0) hx hb dL_law_630 (by decide) ?_
                      refine lv_icmp_eq (tgt := 636) hx hb dL_law_631 (by decide) (fun c_631 => ?_) (fun c_631 => ?_)
                      · refine lv_iinc (v := nI (n + 1 + 1)) (lv' := [(21, .int (nI (n + 1 + 1))), (20, .int fm), (18, .int (nI M)), (16, .int (sp_days ρ 4)), (15, .int (lw_m ρ f (nI vi) (nI wa))), (14, .int wm), (11, .int (nI hh)), (10, .int (nI r)), (9, .int (nI pp)), (8, .int (nI f)), (7, .int (nI wa)), (6, .int (nI vi)), (5, .int (nI kx)), (4, .ref (y1.1 + 1)), (3, .ref y2.1), (2, .ref y1.1), (1, .int (nI tm)), (0, .ref b)]) hx hb dL_law_636 hl (k := 0) rfl (nI_succ _).symm (by decide) rfl (fun ls hl => ?_)
                        refine lv_goto (tgt := 503) hx hb dL_law_639 (by decide) ?_
                        exact ih (n + 1) (by omega) _ _ hB hS ls (lv_sub hl [0, 1, 2, 3, 4, 5, 6, 7, 8, 9, 10, 11, 12, 13, 14, 15, 16, 17] rfl)
                      · exact absurd (by decide +kernel) c_631
                    · refine lv_iconst (v := 1) hx hb dL_law_626 (by decide) ?_
                      refine lv_goto (tgt := 631) hx hb dL_law_627 (by decide) ?_
                      refine lv_icmp_eq (tgt := 636) hx hb dL_law_631 (by decide) (fun c_631 => ?_) (fun c_631 => ?_)
                      · exact absurd c_631 (by decide +kernel)
                      · exact absurd ((lw_r_pos hI c_597 (by omega)).mpr c_623) c_611
                  · refine lv_iconst (v := 1) hx hb dL_law_614 (by decide) ?_
                    refine lv_goto (tgt := 619) hx hb dL_law_615 (by decide) ?_
                    refine lv_iload hx hb dL_law_619 (lv_at hl 0 rfl) ?_
                    refine lv_iload hx hb dL_law_621 (lv_at hl 3 rfl) ?_
                    refine lv_icmp_lt (tgt := 630) hx hb dL_law_623 (by decide) (fun c_623 => ?_) (fun c_623 => ?_)
                    · refine lv_iconst (v := 0) hx hb dL_law_630 (by decide) ?_
                      refine lv_icmp_eq (tgt := 636) hx hb dL_law_631 (by decide) (fun c_631 => ?_) (fun c_631 => ?_)
                      · exact absurd c_631 (by decide +kernel)
                      · exact absurd c_623 ((lw_r_pos hI c_597 (by omega)).mp c_611)
                    · refine lv_iconst (v := 1) hx hb dL_law_626 (by decide) ?_
                      refine lv_goto (tgt := 631) hx hb dL_law_627 (by decide) ?_
                      refine lv_icmp_eq (tgt := 636) hx hb dL_law_631 (by decide) (fun c_631 => ?_) (fun c_631 => ?_)
                      · refine lv_iinc (v := nI (n + 1 + 1)) (lv' := [(21, .int (nI (n + 1 + 1))), (20, .int fm), (18, .int (nI M)), (16, .int (sp_days ρ 4)), (15, .int (lw_m ρ f (nI vi) (nI wa))), (14, .int wm), (11, .int (nI hh)), (10, .int (nI r)), (9, .int (nI pp)), (8, .int (nI f)), (7, .int (nI wa)), (6, .int (nI vi)), (5, .int (nI kx)), (4, .ref (y1.1 + 1)), (3, .ref y2.1), (2, .ref y1.1), (1, .int (nI tm)), (0, .ref b)]) hx hb dL_law_636 hl (k := 0) rfl (nI_succ _).symm (by decide) rfl (fun ls hl => ?_)
                        refine lv_goto (tgt := 503) hx hb dL_law_639 (by decide) ?_
                        exact ih (n + 1) (by omega) _ _ hB hS ls (lv_sub hl [0, 1, 2, 3, 4, 5, 6, 7, 8, 9, 10, 11, 12, 13, 14, 15, 16, 17] rfl)
                      · exact absurd (by decide +kernel) c_631
              · exact absurd (lp_le c_525) c_566
          · refine lv_iconst (v := 1) hx hb dL_law_556 (by decide) ?_
            refine lv_goto (tgt := 561) hx hb dL_law_557 (by decide) ?_
            refine lv_icmp_ne (tgt := 634) hx hb dL_law_561 (by decide) (fun c_561 => ?_) (fun c_561 => ?_)
            · exact absurd ((lw_m_pos c_525 (by omega) (by omega)).mpr c_553) c_541
            · exact absurd c_561 (by decide +kernel)
        · refine lv_iconst (v := 1) hx hb dL_law_544 (by decide) ?_
          refine lv_goto (tgt := 549) hx hb dL_law_545 (by decide) ?_
          refine lv_iload hx hb dL_law_549 (lv_at hl 0 rfl) ?_
          refine lv_iload hx hb dL_law_551 (lv_at hl 4 rfl) ?_
          refine lv_icmp_lt (tgt := 560) hx hb dL_law_553 (by decide) (fun c_553 => ?_) (fun c_553 => ?_)
          · refine lv_iconst (v := 0) hx hb dL_law_560 (by decide) ?_
            refine lv_icmp_ne (tgt := 634) hx hb dL_law_561 (by decide) (fun c_561 => ?_) (fun c_561 => ?_)
            · exact absurd c_553 ((lw_m_pos c_525 (by omega) (by omega)).mp c_541)
            · exact absurd c_561 (by decide +kernel)
          · refine lv_iconst (v := 1) hx hb dL_law_556 (by decide) ?_
            refine lv_goto (tgt := 561) hx hb dL_law_557 (by decide) ?_
            refine lv_icmp_ne (tgt := 634) hx hb dL_law_561 (by decide) (fun c_561 => ?_) (fun c_561 => ?_)
            · exact absurd (by decide +kernel) c_561
            · refine lv_iload hx hb dL_law_564 (lv_at hl 4 rfl) ?_
              refine lv_if_ge (tgt := 595) hx hb dL_law_566 (by decide) (fun c_566 => ?_) (fun c_566 => ?_)
              · refine lv_iload hx hb dL_law_595 (lv_at hl 3 rfl) ?_
                refine lv_if_le (tgt := 636) hx hb dL_law_597 (by decide) (fun c_597 => ?_) (fun c_597 => ?_)
                · refine lv_iinc (v := nI (n + 1 + 1)) (lv' := [(21, .int (nI (n + 1 + 1))), (20, .int fm), (18, .int (nI M)), (16, .int (sp_days ρ 4)), (15, .int (lw_m ρ f (nI vi) (nI wa))), (14, .int wm), (11, .int (nI hh)), (10, .int (nI r)), (9, .int (nI pp)), (8, .int (nI f)), (7, .int (nI wa)), (6, .int (nI vi)), (5, .int (nI kx)), (4, .ref (y1.1 + 1)), (3, .ref y2.1), (2, .ref y1.1), (1, .int (nI tm)), (0, .ref b)]) hx hb dL_law_636 hl (k := 0) rfl (nI_succ _).symm (by decide) rfl (fun ls hl => ?_)
                  refine lv_goto (tgt := 503) hx hb dL_law_639 (by decide) ?_
                  exact ih (n + 1) (by omega) _ _ hB hS ls (lv_sub hl [0, 1, 2, 3, 4, 5, 6, 7, 8, 9, 10, 11, 12, 13, 14, 15, 16, 17] rfl)
                · refine lv_aload_n hx hb dL_law_600 rfl (lv_at hl 14 rfl) ?_
                  refine lw_get (y1 := y2) (y2 := y1) hx hb hts inlX5 hown hE hB.sw 0 (by decide) (hts (.fieldLink RL 14 "WaxrowLaw$Told" "m" "LWaxrow;") (by decide +kernel)) rfl (v := .ref (y2.1 + 1)) rfl dL_law_601 ?_
                  refine lv_iconst (v := 4) hx hb dL_law_604 (by decide) ?_
                  refine lv_iconst (v := 2) hx hb dL_law_605 (by decide) ?_
                  refine lw_rd (y1 := y2) (y2 := y1) (v := sp_ofF ((sp_pass ρ 4 5 (nI vi) (nI wa) (n + 1)).2) 4 2) (As := [.int 4, .int 2]) ⟨hx, hb, hml, hown, hts⟩ (kX4_ofFigure_2 l D d (rc_L (y2.1 + 2)) ((sp_pass ρ 4 5 (nI vi) (nI wa) (n + 1)).2) (lw_A (y2.1 + 2)) (y2.1 + 1) (rc_L (y2.1 + 69)) (lw_wA _) 4 5 3 (lw_I_pass hI (nI vi) (nI wa) (n + 1) (by omega)).1 4 (by omega)) (cwV 2 hts gL_law_X4_ofFigure rfl rfl rfl (by decide +kernel) ⟨Nat.le_of_ble_eq_true rfl, Nat.le_of_ble_eq_true rfl⟩) hE hG.sw hB.sw hS rfl hl.1 (Nat.le_of_ble_eq_true rfl) dL_law_606 hcs rfl (fun H locs hB hz hq hS => ?_)
                  have hB := hB.sw
                  refine lv_bipush (v := 6) hx hb dL_law_609 (by decide) ?_
                  refine lv_icmp_ne (tgt := 618) hx hb dL_law_611 (by decide) (fun c_611 => ?_) (fun c_611 => ?_)
                  · refine lv_iconst (v := 0) hx hb dL_law_618 (by decide) ?_
                    refine lv_iload hx hb dL_law_619 (lv_at hl 0 rfl) ?_
                    refine lv_iload hx hb dL_law_621 (lv_at hl 3 rfl) ?_
                    refine lv_icmp_lt (tgt := 630) hx hb dL_law_623 (by decide) (fun c_623 => ?_) (fun c_623 => ?_)
                    · refine lv_iconst (v := 0) hx hb dL_law_630 (by decide) ?_
                      refine lv_icmp_eq (tgt := 636) hx hb dL_law_631 (by decide) (fun c_631 => ?_) (fun c_631 => ?_)
                      · refine lv_iinc (v := nI (n + 1 + 1)) (lv' := [(21, .int (nI (n + 1 + 1))), (20, .int fm), (18, .int (nI M)), (16, .int (sp_days ρ 4)), (15, .int (lw_m ρ f (nI vi) (nI wa))), (14, .int wm), (11, .int (nI hh)), (10, .int (nI r)), (9, .int (nI pp)), (8, .int (nI f)), (7, .int (nI wa)), (6, .int (nI vi)), (5, .int (nI kx)), (4, .ref (y1.1 + 1)), (3, .ref y2.1), (2, .ref y1.1), (1, .int (nI tm)), (0, .ref b)]) hx hb dL_law_636 hl (k := 0) rfl (nI_succ _).symm (by decide) rfl (fun ls hl => ?_)
                        refine lv_goto (tgt := 503) hx hb dL_law_639 (by decide) ?_
                        exact ih (n + 1) (by omega) _ _ hB hS ls (lv_sub hl [0, 1, 2, 3, 4, 5, 6, 7, 8, 9, 10, 11, 12, 13, 14, 15, 16, 17] rfl)
                      · exact absurd (by decide +kernel) c_631
                    · refine lv_iconst (v := 1) hx hb dL_law_626 (by decide) ?_
                      refine lv_goto (tgt := 631) hx hb dL_law_627 (by decide) ?_
                      refine lv_icmp_eq (tgt := 636) hx hb dL_law_631 (by decide) (fun c_631 => ?_) (fun c_631 => ?_)
                      · exact absurd c_631 (by decide +kernel)
                      · exact absurd ((lw_r_pos hI c_597 (by omega)).mpr c_623) c_611
                  · refine lv_iconst (v := 1) hx hb dL_law_614 (by decide) ?_
                    refine lv_goto (tgt := 619) hx hb dL_law_615 (by decide) ?_
                    refine lv_iload hx hb dL_law_619 (lv_at hl 0 rfl) ?_
                    refine lv_iload hx hb dL_law_621 (lv_at hl 3 rfl) ?_
                    refine lv_icmp_lt (tgt := 630) hx hb dL_law_623 (by decide) (fun c_623 => ?_) (fun c_623 => ?_)
                    · refine lv_iconst (v := 0) hx hb dL_law_630 (by decide) ?_
                      refine lv_icmp_eq (tgt := 636) hx hb dL_law_631 (by decide) (fun c_631 => ?_) (fun c_631 => ?_)
                      · exact absurd c_631 (by decide +kernel)
                      · exact absurd c_623 ((lw_r_pos hI c_597 (by omega)).mp c_611)
                    · refine lv_iconst (v := 1) hx hb dL_law_626 (by decide) ?_
                      refine lv_goto (tgt := 631) hx hb dL_law_627 (by decide) ?_
                      refine lv_icmp_eq (tgt := 636) hx hb dL_law_631 (by decide) (fun c_631 => ?_) (fun c_631 => ?_)
                      · refine lv_iinc (v := nI (n + 1 + 1)) (lv' := [(21, .int (nI (n + 1 + 1))), (20, .int fm), (18, .int (nI M)), (16, .int (sp_days ρ 4)), (15, .int (lw_m ρ f (nI vi) (nI wa))), (14, .int wm), (11, .int (nI hh)), (10, .int (nI r)), (9, .int (nI pp)), (8, .int (nI f)), (7, .int (nI wa)), (6, .int (nI vi)), (5, .int (nI kx)), (4, .ref (y1.1 + 1)), (3, .ref y2.1), (2, .ref y1.1), (1, .int (nI tm)), (0, .ref b)]) hx hb dL_law_636 hl (k := 0) rfl (nI_succ _).symm (by decide) rfl (fun ls hl => ?_)
                        refine lv_goto (tgt := 503) hx hb dL_law_639 (by decide) ?_
                        exact ih (n + 1) (by omega) _ _ hB hS ls (lv_sub hl [0, 1, 2, 3, 4, 5, 6, 7, 8, 9, 10, 11, 12, 13, 14, 15, 16, 17] rfl)
                      · exact absurd (by decide +kernel) c_631
              · exact absurd (lp_le c_525) c_566
set_option maxHeartbeats 4000000 in
set_option maxRecDepth 100000 in
/-- the days -/
theorem law_pass {p : Program} {l : Launch} {e : Env} {s : State} {m : MethodId} {below : List Frame} {meth : Method} {c0 : Code} {Q : State → Prop} {cells slots : Nat} {D : va_G} {d : hs_Dm} {cB cW : ClassId} {b N : Nat} {xs : Nat → Int32} {y1 y2 : lw_Y} (G : lw_N p s m c0 D d cB cW b N xs) (hG : lw_G s.heap.size b y1 y2) (hcs : cells ≤ room_1.cells ∧ slots ≤ room_1.slots) {k1 k2 dd : Nat} {ρ τ1 τ2 : hs_St} (hI : lw_I ρ dd) (hV1 : lw_V τ1) (hV2 : lw_V τ2) (tm kx vi wa f pp r hh : Nat) (hvi : vi ≤ 2000) (hwa : wa ≤ 40) (hf : f < 5) (hpp : pp < 4) (hr : r < 3) (hhh : hh ≤ 9) {wm : Int32} (hwm : (wm = 1 ∧ ρ 9 f 7 = 7) ∨ (wm = 0 ∧ ¬ ρ 9 f 7 = 7)) (M : Nat) (hM1 : 1 ≤ M) (hM : M ≤ 40) (hdd : dd < 2 ^ 29) {H : Heap} {locs : List Loc} (hB : lw_B D d b y1 y2 k1 k2 ρ τ1 ρ τ2 H) (hS : va_S (rg_A s.heap.size) s.heap H locs) {ls : Array Slot} (hl : lv_has ls 22 [(20, .int (sp_fame ρ pp 1 ((dd + M) / 30 - dd / 30))), (18, .int (nI M)), (16, .int (sp_days ρ 4)), (15, .int (lw_m ρ f (nI vi) (nI wa))), (14, .int wm), (11, .int (nI hh)), (10, .int (nI r)), (9, .int (nI pp)), (8, .int (nI f)), (7, .int (nI wa)), (6, .int (nI vi)), (5, .int (nI kx)), (4, .ref (y1.1 + 1)), (3, .ref y2.1), (2, .ref y1.1), (1, .int (nI tm)), (0, .ref b)]) (kK : ∀ (τa τb : hs_St) (H : Heap) (locs : List Loc), lw_V τa → lw_V τb → lw_B D d b y1 y2 k1 k2 ((sp_pass ρ 4 5 (nI vi) (nI wa) M).2) τa ((sp_pass ρ 4 5 (nI vi) (nI wa) M).2) τb H → va_S (rg_A s.heap.size) s.heap H locs → ∀ ls : Array Slot, lv_has ls 22 [(11, .int (nI hh)), (10, .int (nI r)), (9, .int (nI pp)), (8, .int (nI f)), (7, .int (nI wa)), (6, .int (nI vi)), (5, .int (nI kx)), (4, .ref (y1.1 + 1)), (3, .ref y2.1), (2, .ref y1.1), (1, .int (nI tm)), (0, .ref b)] → W p l e room_1 s m #[Value.ref b] below meth c0 H locs cells slots Q (F0 m 673 ls [])) : W p l e room_1 s m #[Value.ref b] below meth c0 H locs cells slots Q (F0 m 470 ls []) := by
  obtain ⟨hx, hb, hml, hown, hts, hE, hN31⟩ := id G
  have hJ := lw_I_pass hI (nI vi) (nI wa) M (by omega)
  refine lv_aload hx hb dL_law_470 (lv_at hl 12 rfl) ?_
  refine lw_tl (As := []) ⟨hx, hb, hml, hown, hts⟩ (kX4_digest l D d (rc_L (y1.1 + 2)) ρ (lw_A (y1.1 + 2)) (y1.1 + 1) (rc_L (y1.1 + 69)) (lw_A (y1.1 + 69)) (lw_dis _) (lw_wB _) 4 5 3 hI.1 τ1 hV1.1 (fun f hf => hI.2.2.2.1 f hf) (fun q _ => hI.2.2.2.2.1 q)) (cwV 0 hts gL_law_X4_digest rfl rfl rfl (by decide +kernel) ⟨Nat.le_of_ble_eq_true rfl, Nat.le_of_ble_eq_true rfl⟩) hE hG hB hS rfl hl.1 (Nat.le_of_ble_eq_true rfl) dL_law_472 hcs rfl (fun r_ t1_ H locs hp hB hz hS => ?_)
  obtain ⟨e1_, e2_⟩ := hp
  have hVt1_ : lw_V t1_ := by rw [← e2_]; exact lw_Vd hI hV1
  subst e1_
  refine lv_aload_n hx hb dL_law_475 rfl (lv_at hl 13 rfl) ?_
  refine lw_get (y1 := y2) (y2 := y1) hx hb hts inlX5 hown hE hB.sw 0 (by decide) (hts (.fieldLink RL 14 "WaxrowLaw$Told" "m" "LWaxrow;") (by decide +kernel)) rfl (v := .ref (y2.1 + 1)) rfl dL_law_476 ?_
  refine lw_tl (y1 := y2) (y2 := y1) (As := []) ⟨hx, hb, hml, hown, hts⟩ (kX4_digest l D d (rc_L (y2.1 + 2)) ρ (lw_A (y2.1 + 2)) (y2.1 + 1) (rc_L (y2.1 + 69)) (lw_A (y2.1 + 69)) (lw_dis _) (lw_wB _) 4 5 3 hI.1 τ2 hV2.1 (fun f hf => hI.2.2.2.1 f hf) (fun q _ => hI.2.2.2.2.1 q)) (cwV 0 hts gL_law_X4_digest rfl rfl rfl (by decide +kernel) ⟨Nat.le_of_ble_eq_true rfl, Nat.le_of_ble_eq_true rfl⟩) hE hG.sw hB.sw hS rfl hl.1 (Nat.le_of_ble_eq_true rfl) dL_law_479 hcs rfl (fun r_ t2_ H locs hp hB hz hS => ?_)
  have hB := hB.sw
  obtain ⟨e1_, e2_⟩ := hp
  have hVt2_ : lw_V t2_ := by rw [← e2_]; exact lw_Vd hI hV2
  subst e1_
  refine W.lcmp hx hb dL_law_482 ?_
  rw [lw_dig hI hV1 hV2, lg_cmp_self]
  refine lv_if_eq (tgt := 488) hx hb dL_law_483 (by decide) (fun c_483 => ?_) (fun c_483 => ?_)
  · refine lv_aload hx hb dL_law_488 (lv_at hl 12 rfl) ?_
    refine lv_iload hx hb dL_law_490 (lv_at hl 1 rfl) ?_
    refine lv_iload hx hb dL_law_492 (lv_at hl 10 rfl) ?_
    refine lv_iload hx hb dL_law_494 (lv_at hl 9 rfl) ?_
    refine lw_wx (As := [.int (nI M), .int (nI vi), .int (nI wa)]) ⟨hx, hb, hml, hown, hts⟩ (kX4_pass l D d (rc_L (y1.1 + 2)) ρ (lw_A (y1.1 + 2)) (y1.1 + 1) (rc_L (y1.1 + 69)) (lw_wA _) 4 5 3 hI.1 M hM1 hM (nI vi) (nI wa) (nI_pos (by omega)) (nI_le (b := 2000) hvi (by decide)) (nI_pos (by omega)) (nI_le (b := 40) hwa (by decide))) (cwV 3 hts gL_law_X4_pass rfl rfl rfl (by decide +kernel) ⟨Nat.le_of_ble_eq_true rfl, Nat.le_of_ble_eq_true rfl⟩) hE hG hB hS rfl hl.1 (Nat.le_of_ble_eq_true rfl) dL_law_496 hcs rfl (fun r_ τ_ H locs hp hB hz hq hS => ?_)
    obtain ⟨e1_, e2_⟩ := hp
    subst e2_
    refine lv_pop hx hb dL_law_499 rfl ?_
    refine lv_iconst (v := 1) hx hb dL_law_500 (by decide) ?_
    refine lv_istore (lv' := [(21, .int 1), (20, .int (sp_fame ρ pp 1 ((dd + M) / 30 - dd / 30))), (18, .int (nI M)), (16, .int (sp_days ρ 4)), (15, .int (lw_m ρ f (nI vi) (nI wa))), (14, .int wm), (11, .int (nI hh)), (10, .int (nI r)), (9, .int (nI pp)), (8, .int (nI f)), (7, .int (nI wa)), (6, .int (nI vi)), (5, .int (nI kx)), (4, .ref (y1.1 + 1)), (3, .ref y2.1), (2, .ref y1.1), (1, .int (nI tm)), (0, .ref b)]) hx hb dL_law_501 hl (by decide) rfl (fun ls hl => ?_)
    refine law_days G hG hcs hI hdd tm kx vi wa f pp r hh hvi hwa hf hpp hr hhh hwm M hM (fun H locs hB hS ls hl => ?_) M 0 (by omega) _ _ hB hS ls (lv_sub hl [0, 1, 2, 3, 4, 5, 6, 7, 8, 9, 10, 11, 12, 13, 14, 15, 16, 17] rfl)
    refine lv_aload hx hb dL_law_642 (lv_at hl 8 rfl) ?_
    refine lw_tl (As := []) ⟨hx, hb, hml, hown, hts⟩ (kX4_digest l D d (rc_L (y1.1 + 2)) ((sp_pass ρ 4 5 (nI vi) (nI wa) M).2) (lw_A (y1.1 + 2)) (y1.1 + 1) (rc_L (y1.1 + 69)) (lw_A (y1.1 + 69)) (lw_dis _) (lw_wB _) 4 5 3 hJ.1 t1_ hVt1_.1 (fun f hf => hJ.2.2.2.1 f hf) (fun q _ => hJ.2.2.2.2.1 q)) (cwV 0 hts gL_law_X4_digest rfl rfl rfl (by decide +kernel) ⟨Nat.le_of_ble_eq_true rfl, Nat.le_of_ble_eq_true rfl⟩) hE hG hB hS rfl hl.1 (Nat.le_of_ble_eq_true rfl) dL_law_644 hcs rfl (fun r_ t3_ H locs hp hB hz hS => ?_)
    obtain ⟨e1_, e2_⟩ := hp
    have hVt3_ : lw_V t3_ := by rw [← e2_]; exact lw_Vd hJ hVt1_
    subst e1_
    refine lv_aload_n hx hb dL_law_647 rfl (lv_at hl 9 rfl) ?_
    refine lw_get (y1 := y2) (y2 := y1) hx hb hts inlX5 hown hE hB.sw 0 (by decide) (hts (.fieldLink RL 14 "WaxrowLaw$Told" "m" "LWaxrow;") (by decide +kernel)) rfl (v := .ref (y2.1 + 1)) rfl dL_law_648 ?_
    refine lw_tl (y1 := y2) (y2 := y1) (As := []) ⟨hx, hb, hml, hown, hts⟩ (kX4_digest l D d (rc_L (y2.1 + 2)) ((sp_pass ρ 4 5 (nI vi) (nI wa) M).2) (lw_A (y2.1 + 2)) (y2.1 + 1) (rc_L (y2.1 + 69)) (lw_A (y2.1 + 69)) (lw_dis _) (lw_wB _) 4 5 3 hJ.1 t2_ hVt2_.1 (fun f hf => hJ.2.2.2.1 f hf) (fun q _ => hJ.2.2.2.2.1 q)) (cwV 0 hts gL_law_X4_digest rfl rfl rfl (by decide +kernel) ⟨Nat.le_of_ble_eq_true rfl, Nat.le_of_ble_eq_true rfl⟩) hE hG.sw hB.sw hS rfl hl.1 (Nat.le_of_ble_eq_true rfl) dL_law_651 hcs rfl (fun r_ t4_ H locs hp hB hz hS => ?_)
    have hB := hB.sw
    obtain ⟨e1_, e2_⟩ := hp
    have hVt4_ : lw_V t4_ := by rw [← e2_]; exact lw_Vd hJ hVt2_
    subst e1_
    refine W.lcmp hx hb dL_law_654 ?_
    rw [lw_dig hJ hVt1_ hVt2_, lg_cmp_self]
    refine lv_if_ne (tgt := 671) hx hb dL_law_655 (by decide) (fun c_655 => ?_) (fun c_655 => ?_)
    · exact absurd (by decide +kernel) c_655
    · refine lv_aload hx hb dL_law_658 (lv_at hl 8 rfl) ?_
      refine lv_iload hx hb dL_law_660 (lv_at hl 3 rfl) ?_
      refine lv_iconst (v := 1) hx hb dL_law_662 (by decide) ?_
      refine lw_rd (v := sp_ofP ((sp_pass ρ 4 5 (nI vi) (nI wa) M).2) 5 pp 1) (As := [.int (nI pp), .int 1]) ⟨hx, hb, hml, hown, hts⟩ (kX4_ofPerson_1 l D d (rc_L (y1.1 + 2)) ((sp_pass ρ 4 5 (nI vi) (nI wa) M).2) (lw_A (y1.1 + 2)) (y1.1 + 1) (rc_L (y1.1 + 69)) (lw_wA _) 4 5 3 hJ.1 pp (by omega)) (cwV 2 hts gL_law_X4_ofPerson rfl rfl rfl (by decide +kernel) ⟨Nat.le_of_ble_eq_true rfl, Nat.le_of_ble_eq_true rfl⟩) hE hG hB hS rfl hl.1 (Nat.le_of_ble_eq_true rfl) dL_law_663 hcs rfl (fun H locs hB hz hq hS => ?_)
      refine lv_iload hx hb dL_law_666 (lv_at hl 0 rfl) ?_
      refine lv_icmp_eq (tgt := 673) hx hb dL_law_668 (by decide) (fun c_668 => ?_) (fun c_668 => ?_)
      · exact kK _ _ _ _ hVt3_ hVt4_ hB hS ls (lv_sub hl [1, 2, 3, 4, 5, 6, 7, 8, 9, 10, 11, 12] rfl)
      · exact absurd (lw_fame hI hpp (nI vi) (nI wa) M (by omega)) c_668
  · exact absurd (by decide +kernel) c_483
set_option maxHeartbeats 4000000 in
set_option maxRecDepth 100000 in
/-- the rounds: the loop at 72 -/
theorem law_rounds {p : Program} {l : Launch} {e : Env} {s : State} {m : MethodId} {below : List Frame} {meth : Method} {c0 : Code} {Q : State → Prop} {cells slots : Nat} {D : va_G} {d : hs_Dm} {cB cW : ClassId} {b N : Nat} {xs : Nat → Int32} {y1 y2 : lw_Y} (G : lw_N p s m c0 D d cB cW b N xs) (hG : lw_G s.heap.size b y1 y2) (hcs7 : cells + 7 ≤ room_1.cells ∧ slots + 14 ≤ room_1.slots) (tm : Nat) (kx_ : ∀ (H : Heap) (locs : List Loc), va_S (rg_A s.heap.size) s.heap H locs → ∀ ls : Array Slot, lv_has ls 22 [(4, .ref (y1.1 + 1)), (3, .ref y2.1), (2, .ref y1.1), (1, .int (nI tm)), (0, .ref b)] → W p l e room_1 s m #[Value.ref b] below meth c0 H locs (cells + 7) (slots + 14) Q (F0 m 679 ls [])) : ∀ (kk kx : Nat), kx + kk = 7 → ∀ (k1 k2 dd : Nat) (σ τ1 τ2 : hs_St), lw_I σ dd → lw_V τ1 → lw_V τ2 → dd + 40 * kk < 2 ^ 20 → k1 + 7 * kk < 2 ^ 20 → ∀ (H : Heap) (locs : List Loc), lw_B D d b y1 y2 k1 k2 σ τ1 σ τ2 H → va_S (rg_A s.heap.size) s.heap H locs → ∀ ls : Array Slot, lv_has ls 22 [(5, .int (nI kx)), (4, .ref (y1.1 + 1)), (3, .ref y2.1), (2, .ref y1.1), (1, .int (nI tm)), (0, .ref b)] → W p l e room_1 s m #[Value.ref b] below meth c0 H locs (cells + kx) (slots + 2 * kx) Q (F0 m 72 ls []) := by
  obtain ⟨hx, hb, hml, hown, hts, hE, hN31⟩ := id G
  intro kk
  induction kk with
  | zero =>
    intro kx hn k1 k2 dd σ τ1 τ2 hI hV1 hV2 hdd hk H locs hB hS ls hl
    have hkx : kx = 7 := by omega
    have hcs : cells + kx ≤ room_1.cells ∧ slots + 2 * kx ≤ room_1.slots := ⟨by have := hcs7.1; omega, by have := hcs7.2; omega⟩
    refine lv_iload hx hb dL_law_72 (lv_at hl 0 rfl) ?_
    refine lv_bipush (v := 7) hx hb dL_law_74 (by decide) ?_
    refine lv_icmp_ge (tgt := 679) hx hb dL_law_76 (by decide) (fun c_76 => ?_) (fun c_76 => ?_)
    · subst hkx
      exact kx_ _ _ hS ls (lv_sub hl [1, 2, 3, 4, 5] rfl)
    · exact absurd (by rw [hkx]; exact nI_le (a := 7) (b := 7) (Nat.le_refl _) (by decide)) c_76
  | succ kk ih =>
    intro kx hn k1 k2 dd σ τ1 τ2 hI hV1 hV2 hdd hk H locs hB hS ls hl
    have hkx : kx < 7 := by omega
    have hcs : cells + kx ≤ room_1.cells ∧ slots + 2 * kx ≤ room_1.slots := ⟨by have := hcs7.1; omega, by have := hcs7.2; omega⟩
    refine lv_iload hx hb dL_law_72 (lv_at hl 0 rfl) ?_
    refine lv_bipush (v := 7) hx hb dL_law_74 (by decide) ?_
    refine lv_icmp_ge (tgt := 679) hx hb dL_law_76 (by decide) (fun c_76 => ?_) (fun c_76 => ?_)
    · exact absurd c_76 (nI_ge (b := 7) hkx (by decide))
    · refine lv_aload_n hx hb dL_law_79 rfl (lv_at hl 3 rfl) ?_
      refine lv_sipush (v := 2001) hx hb dL_law_80 (by decide) ?_
      refine lw_dr ⟨hx, hb, hml, hown, hts⟩ (cwV 1 hts gL_law_X5_draw rfl rfl rfl (by decide +kernel) ⟨Nat.le_of_ble_eq_true rfl, Nat.le_of_ble_eq_true rfl⟩) (by omega) hN31 (by decide) hE hG hB hS rfl hl.1 (Nat.le_of_ble_eq_true rfl) dL_law_83 hcs rfl (fun H locs hB hz hS => ?_)
      obtain ⟨vi, hvi_, evi_⟩ := tl_v_in xs N k1 (m := 2001) (by decide) (by decide)
      rw [show tl_v xs N k1 2001 = nI vi from evi_]
      refine lv_istore (lv' := [(6, .int (nI vi)), (5, .int (nI kx)), (4, .ref (y1.1 + 1)), (3, .ref y2.1), (2, .ref y1.1), (1, .int (nI tm)), (0, .ref b)]) hx hb dL_law_86 hl (by decide) rfl (fun ls hl => ?_)
      refine lv_aload_n hx hb dL_law_88 rfl (lv_at hl 4 rfl) ?_
      refine lv_bipush (v := 41) hx hb dL_law_89 (by decide) ?_
      refine lw_dr ⟨hx, hb, hml, hown, hts⟩ (cwV 1 hts gL_law_X5_draw rfl rfl rfl (by decide +kernel) ⟨Nat.le_of_ble_eq_true rfl, Nat.le_of_ble_eq_true rfl⟩) (by omega) hN31 (by decide) hE hG hB hS rfl hl.1 (Nat.le_of_ble_eq_true rfl) dL_law_91 hcs rfl (fun H locs hB hz hS => ?_)
      obtain ⟨wa, hwa_, ewa_⟩ := tl_v_in xs N (k1 + 1) (m := 41) (by decide) (by decide)
      rw [show tl_v xs N (k1 + 1) 41 = nI wa from ewa_]
      refine lv_istore (lv' := [(7, .int (nI wa)), (6, .int (nI vi)), (5, .int (nI kx)), (4, .ref (y1.1 + 1)), (3, .ref y2.1), (2, .ref y1.1), (1, .int (nI tm)), (0, .ref b)]) hx hb dL_law_94 hl (by decide) rfl (fun ls hl => ?_)
      refine lv_aload_n hx hb dL_law_96 rfl (lv_at hl 5 rfl) ?_
      refine lv_iconst (v := 5) hx hb dL_law_97 (by decide) ?_
      refine lw_dr ⟨hx, hb, hml, hown, hts⟩ (cwV 1 hts gL_law_X5_draw rfl rfl rfl (by decide +kernel) ⟨Nat.le_of_ble_eq_true rfl, Nat.le_of_ble_eq_true rfl⟩) (by omega) hN31 (by decide) hE hG hB hS rfl hl.1 (Nat.le_of_ble_eq_true rfl) dL_law_98 hcs rfl (fun H locs hB hz hS => ?_)
      obtain ⟨f, hf_, ef_⟩ := tl_v_in xs N (k1 + 1 + 1) (m := 5) (by decide) (by decide)
      rw [show tl_v xs N (k1 + 1 + 1) 5 = nI f from ef_]
      refine lv_istore (lv' := [(8, .int (nI f)), (7, .int (nI wa)), (6, .int (nI vi)), (5, .int (nI kx)), (4, .ref (y1.1 + 1)), (3, .ref y2.1), (2, .ref y1.1), (1, .int (nI tm)), (0, .ref b)]) hx hb dL_law_101 hl (by decide) rfl (fun ls hl => ?_)
      refine lv_aload_n hx hb dL_law_103 rfl (lv_at hl 6 rfl) ?_
      refine lv_iconst (v := 4) hx hb dL_law_104 (by decide) ?_
      refine lw_dr ⟨hx, hb, hml, hown, hts⟩ (cwV 1 hts gL_law_X5_draw rfl rfl rfl (by decide +kernel) ⟨Nat.le_of_ble_eq_true rfl, Nat.le_of_ble_eq_true rfl⟩) (by omega) hN31 (by decide) hE hG hB hS rfl hl.1 (Nat.le_of_ble_eq_true rfl) dL_law_105 hcs rfl (fun H locs hB hz hS => ?_)
      obtain ⟨pp, hpp_, epp_⟩ := tl_v_in xs N (k1 + 1 + 1 + 1) (m := 4) (by decide) (by decide)
      rw [show tl_v xs N (k1 + 1 + 1 + 1) 4 = nI pp from epp_]
      refine lv_istore (lv' := [(9, .int (nI pp)), (8, .int (nI f)), (7, .int (nI wa)), (6, .int (nI vi)), (5, .int (nI kx)), (4, .ref (y1.1 + 1)), (3, .ref y2.1), (2, .ref y1.1), (1, .int (nI tm)), (0, .ref b)]) hx hb dL_law_108 hl (by decide) rfl (fun ls hl => ?_)
      refine lv_aload_n hx hb dL_law_110 rfl (lv_at hl 7 rfl) ?_
      refine lv_iconst (v := 3) hx hb dL_law_111 (by decide) ?_
      refine lw_dr ⟨hx, hb, hml, hown, hts⟩ (cwV 1 hts gL_law_X5_draw rfl rfl rfl (by decide +kernel) ⟨Nat.le_of_ble_eq_true rfl, Nat.le_of_ble_eq_true rfl⟩) (by omega) hN31 (by decide) hE hG hB hS rfl hl.1 (Nat.le_of_ble_eq_true rfl) dL_law_112 hcs rfl (fun H locs hB hz hS => ?_)
      obtain ⟨r, hr_, er_⟩ := tl_v_in xs N (k1 + 1 + 1 + 1 + 1) (m := 3) (by decide) (by decide)
      rw [show tl_v xs N (k1 + 1 + 1 + 1 + 1) 3 = nI r from er_]
      refine lv_istore (lv' := [(10, .int (nI r)), (9, .int (nI pp)), (8, .int (nI f)), (7, .int (nI wa)), (6, .int (nI vi)), (5, .int (nI kx)), (4, .ref (y1.1 + 1)), (3, .ref y2.1), (2, .ref y1.1), (1, .int (nI tm)), (0, .ref b)]) hx hb dL_law_115 hl (by decide) rfl (fun ls hl => ?_)
      refine lv_aload_n hx hb dL_law_117 rfl (lv_at hl 8 rfl) ?_
      refine lv_bipush (v := 7) hx hb dL_law_118 (by decide) ?_
      refine lw_dr ⟨hx, hb, hml, hown, hts⟩ (cwV 1 hts gL_law_X5_draw rfl rfl rfl (by decide +kernel) ⟨Nat.le_of_ble_eq_true rfl, Nat.le_of_ble_eq_true rfl⟩) (by omega) hN31 (by decide) hE hG hB hS rfl hl.1 (Nat.le_of_ble_eq_true rfl) dL_law_120 hcs rfl (fun H locs hB hz hS => ?_)
      obtain ⟨h_h, hh_h_, eh_h_⟩ := tl_v_in xs N (k1 + 1 + 1 + 1 + 1 + 1) (m := 7) (by decide) (by decide)
      rw [show tl_v xs N (k1 + 1 + 1 + 1 + 1 + 1) 7 = nI h_h from eh_h_]
      refine lv_istore (lv' := [(11, .int (nI h_h)), (10, .int (nI r)), (9, .int (nI pp)), (8, .int (nI f)), (7, .int (nI wa)), (6, .int (nI vi)), (5, .int (nI kx)), (4, .ref (y1.1 + 1)), (3, .ref y2.1), (2, .ref y1.1), (1, .int (nI tm)), (0, .ref b)]) hx hb dL_law_123 hl (by decide) rfl (fun ls hl => ?_)
      refine lv_aload hx hb dL_law_125 (lv_at hl 7 rfl) ?_
      refine lw_tl (As := []) ⟨hx, hb, hml, hown, hts⟩ (kX4_digest l D d (rc_L (y1.1 + 2)) σ (lw_A (y1.1 + 2)) (y1.1 + 1) (rc_L (y1.1 + 69)) (lw_A (y1.1 + 69)) (lw_dis _) (lw_wB _) 4 5 3 hI.1 τ1 hV1.1 (fun f hf => hI.2.2.2.1 f hf) (fun q _ => hI.2.2.2.2.1 q)) (cwV 0 hts gL_law_X4_digest rfl rfl rfl (by decide +kernel) ⟨Nat.le_of_ble_eq_true rfl, Nat.le_of_ble_eq_true rfl⟩) hE hG hB hS rfl hl.1 (Nat.le_of_ble_eq_true rfl) dL_law_127 hcs rfl (fun r_ t5_ H locs hp hB hz hS => ?_)
      obtain ⟨e1_, e2_⟩ := hp
      have hVt5_ : lw_V t5_ := by rw [← e2_]; exact lw_Vd hI hV1
      subst e1_
      refine lv_lstore (lv' := [(12, .long ((sp_dig σ τ1 4 5 3).1)), (11, .int (nI h_h)), (10, .int (nI r)), (9, .int (nI pp)), (8, .int (nI f)), (7, .int (nI wa)), (6, .int (nI vi)), (5, .int (nI kx)), (4, .ref (y1.1 + 1)), (3, .ref y2.1), (2, .ref y1.1), (1, .int (nI tm)), (0, .ref b)]) hx hb dL_law_130 hl (by decide) rfl (fun ls hl => ?_)
      refine lv_aload_n hx hb dL_law_132 rfl (lv_at hl 9 rfl) ?_
      refine lw_get (y1 := y2) (y2 := y1) hx hb hts inlX5 hown hE hB.sw 0 (by decide) (hts (.fieldLink RL 14 "WaxrowLaw$Told" "m" "LWaxrow;") (by decide +kernel)) rfl (v := .ref (y2.1 + 1)) rfl dL_law_133 ?_
      refine lw_tl (y1 := y2) (y2 := y1) (As := []) ⟨hx, hb, hml, hown, hts⟩ (kX4_digest l D d (rc_L (y2.1 + 2)) σ (lw_A (y2.1 + 2)) (y2.1 + 1) (rc_L (y2.1 + 69)) (lw_A (y2.1 + 69)) (lw_dis _) (lw_wB _) 4 5 3 hI.1 τ2 hV2.1 (fun f hf => hI.2.2.2.1 f hf) (fun q _ => hI.2.2.2.2.1 q)) (cwV 0 hts gL_law_X4_digest rfl rfl rfl (by decide +kernel) ⟨Nat.le_of_ble_eq_true rfl, Nat.le_of_ble_eq_true rfl⟩) hE hG.sw hB.sw hS rfl hl.1 (Nat.le_of_ble_eq_true rfl) dL_law_136 hcs rfl (fun r_ t6_ H locs hp hB hz hS => ?_)
      have hB := hB.sw
      obtain ⟨e1_, e2_⟩ := hp
      have hVt6_ : lw_V t6_ := by rw [← e2_]; exact lw_Vd hI hV2
      subst e1_
      refine lv_lload hx hb dL_law_139 (lv_at hl 0 rfl) ?_
      refine W.lcmp hx hb dL_law_141 ?_
      rw [lw_dig hI hV1 hV2, lg_cmp_self]
      refine lv_if_eq (tgt := 147) hx hb dL_law_142 (by decide) (fun c_142 => ?_) (fun c_142 => ?_)
      · have hIr := lw_I_wk (lw_I_sh hI (f := f) (r := r) (by omega) (by omega)) (x := h_h) (by omega)
        have hcs1 : cells + kx + 1 ≤ room_1.cells ∧ slots + 2 * kx + 2 ≤ room_1.slots := ⟨by have := hcs7.1; omega, by have := hcs7.2; omega⟩
        refine law_pair G hG hcs1 hI tm kx vi wa f pp r h_h (by omega) (by omega) (by omega) (by omega) (by omega) (by omega) hB hS (lv_sub hl [1, 2, 3, 4, 5, 6, 7, 8, 9, 10, 11, 12] rfl) (fun H locs hB hS ls hl => ?_)
        refine law_was G hG hcs1 hIr tm kx vi wa f pp r h_h (by omega) (by omega) (by omega) (by omega) (by omega) (by omega) hB hS hl (fun wm H locs hwm hB hS ls hl => ?_)
        refine law_says G hG hcs1 hIr hVt5_ hVt6_ tm kx vi wa f pp r h_h (by omega) (by omega) (by omega) (by omega) (by omega) (by omega) hB hS hl (fun τc H locs hVc hB hS ls hl => ?_)
        refine law_many G hG hcs1 hIr tm kx vi wa f pp r h_h (by omega) (by omega) (by omega) (by omega) (by omega) (by omega) (by omega) hB hS hl (fun M k9 H locs hM1 hM hk9 hB hS ls hl => ?_)
        refine law_fame G hG hcs1 hIr tm kx vi wa f pp r h_h (by omega) (by omega) (by omega) (by omega) (by omega) (by omega) M hM (by omega) hB hS hl (fun H locs hB hS ls hl => ?_)
        refine law_next G hG hcs1 hIr tm kx vi wa f pp r h_h (by omega) (by omega) (by omega) (by omega) (by omega) (by omega) M hB hS hl (fun H locs hB hS ls hl => ?_)
        refine law_pass G hG hcs1 hIr hVc hVt6_ tm kx vi wa f pp r h_h (by omega) (by omega) (by omega) (by omega) (by omega) (by omega) hwm M hM1 hM (by omega) hB hS hl (fun τd τe H locs hVd hVe hB hS ls hl => ?_)
        refine lv_iinc (v := nI (kx + 1)) (lv' := [(5, .int (nI (kx + 1))), (11, .int (nI h_h)), (10, .int (nI r)), (9, .int (nI pp)), (8, .int (nI f)), (7, .int (nI wa)), (6, .int (nI vi)), (4, .ref (y1.1 + 1)), (3, .ref y2.1), (2, .ref y1.1), (1, .int (nI tm)), (0, .ref b)]) hx hb dL_law_673 hl (k := 6) rfl (nI_succ _).symm (by decide) rfl (fun ls hl => ?_)
        refine lv_goto (tgt := 72) hx hb dL_law_676 (by decide) ?_
        refine W.widen (k := cells + (kx + 1)) (n := slots + 2 * (kx + 1)) (by omega) (by omega) ?_
        exact ih (kx + 1) (by omega) _ _ _ _ _ _ (lw_I_pass hIr (nI vi) (nI wa) M (by omega)) hVd hVe (by omega) (by omega) _ _ hB hS ls (lv_sub hl [0, 7, 8, 9, 10, 11] rfl)
      · exact absurd (by decide +kernel) c_142
