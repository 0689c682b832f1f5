/-! THE HOUSE: what it reads over its figures and persons -/
def sp_figIn (σ : hs_St) (x y : Int32) : Nat → Int32
  | 0 => 0
  | n + 1 => if σ 9 n 7 < x then sp_figIn σ x y n else if y < σ 9 n 7 then sp_figIn σ x y n else sp_figIn σ x y n + 1
def sp_done (σ : hs_St) : Nat → Int32
  | 0 => 0
  | n + 1 => if sp_isDone σ n = 0 then sp_done σ n else sp_done σ n + 1
def sp_draws (σ : hs_St) (x y : Int32) : Nat → Int32
  | 0 => 0
  | n + 1 => if σ 9 n 7 < x then sp_draws σ x y n else if y < σ 9 n 7 then sp_draws σ x y n else sp_draws σ x y n + sp_draw σ n
def sp_liked (σ : hs_St) : Nat → Int32
  | 0 => 0
  | n + 1 => if sp_isShown σ n = 0 then sp_liked σ n else sp_liked σ n + sp_likeness σ n
def sp_due (σ : hs_St) : Nat → Int32
  | 0 => 0
  | n + 1 => sp_due σ n + σ 4 n 6
def sp_hands (σ : hs_St) : Nat → Int32
  | 0 => 0
  | n + 1 => sp_hands σ n + σ 9 n 4
/-- from figure n on, k of them: the first that is shown with that head -/
def sp_shownFrom (σ : hs_St) (q : Nat) : Nat → Nat → Int32
  | 0, _ => -1
  | k + 1, n => if (σ 9 n 0).toNatClampNeg = q then (if sp_isShown σ n = 0 then sp_shownFrom σ q k (n + 1) else nI n) else sp_shownFrom σ q k (n + 1)
def sp_hasFrom (σ : hs_St) (q : Nat) : Nat → Nat → Int32
  | 0, _ => 0
  | k + 1, n => if (σ 9 n 0).toNatClampNeg = q then (if σ 9 n 7 = 7 then sp_hasFrom σ q k (n + 1) else 1) else sp_hasFrom σ q k (n + 1)
def sp_tk (σ : hs_St) (q : Nat) : Nat → Int32 × hs_St
  | 0 => (0, σ)
  | n + 1 => if ((sp_tk σ q n).2 9 n 0).toNatClampNeg = q then (if sp_isShown (sp_tk σ q n).2 n = 0 then sp_tk σ q n else ((sp_tk σ q n).1 + 1, hs_sg (sp_tk σ q n).2 9 n 7 5)) else sp_tk σ q n
theorem sp_tk_head (σ : hs_St) (q i : Nat) : ∀ n, (sp_tk σ q n).2 9 i 0 = σ 9 i 0
  | 0 => rfl
  | n + 1 => by
    have ih := sp_tk_head σ q i n
    simp only [sp_tk]
    split
    · split
      · exact ih
      · simp only [hs_sg]
        rw [if_neg (by omega)]
        exact ih
    · exact ih
theorem sp_tk_cnt (σ : hs_St) (q j : Nat) : ∀ n, (sp_tk σ q n).2 0 0 j = σ 0 0 j
  | 0 => rfl
  | n + 1 => by
    have ih := sp_tk_cnt σ q j n
    simp only [sp_tk]
    split
    · split
      · exact ih
      · simp only [hs_sg]
        rw [if_neg (by omega)]
        exact ih
    · exact ih
set_option maxHeartbeats 4000000 in
set_option maxRecDepth 100000 in
/-- figuresIn: the loop at 5 -/
theorem lkX1_figuresIn (l : Launch) (D : va_G) (d : hs_Dm) (L : hs_Lo) (σ : hs_St) (A : Nat → Prop) {p : Program} {e : Env} {s : State} {m : MethodId} {args : Array Value} {below : List Frame} {meth : Method} {c : Code} (x y : Int32) (F : Nat) (hF : σ 0 0 4 = nI F) (hF8 : F ≤ 8)  (hx : p.tables.exec = Jvm.exec) (hb : c.code = cX1_figuresIn) (hr : meth.sig.returnType = (some .int)) (hts : ∀ w ∈ wsX1_figuresIn, w.before args s = true) (hown : s.vm.findClass RX1 = some m.cls) (hlocks : meth.locks = false) (hml : c.maxLocals = 5) (hK : va_K D vwCl (hs_ty d) s) (hE : hs_E d.2.2.2.2 A s)  : ∀ (k n : Nat), n + k = F → ∀ (H : Heap) (locs : List Loc), hs_W D d L σ A H → va_S A s.heap H locs → ∀ ls : Array Slot, lv_has ls 5 [(0, .ref (L 0 0)), (1, .int x), (2, .int y), (3, .int (sp_figIn σ x y n)), (4, .int (nI n))] → W p l e ({ frames := 0, cells := 0, slots := 0, locals := 0 } : Room) s m args below meth c H locs 0 0 (MQ below (va_Qi (fun r τ => sp_figIn σ x y F = r ∧ σ = τ) (fun τ t => hs_B D d L τ A t) A) args s 0 0 A) (F0 m 5 ls []) := by
  intro k
  induction k with
  | zero =>
    intro n hn H locs hW hS ls hl
    have hnN : n = F := by omega
    refine lv_iload hx hb dX1_figuresIn_5 (lv_at hl 4 rfl) ?_
    refine lv_aload_n hx hb dX1_figuresIn_7 rfl (lv_at hl 0 rfl) ?_
    refine va_get (D := D) (ci := cHo) (C := RX1) (T := TX1) (N := 11) (ws := [(L 0 0, hs_ct d L σ 0 0)]) (v := .int (σ 0 0 4)) hx hb hts (by decide +kernel) hown hK (hW.one hs_ix0) 0 rfl rfl 4 (by decide) (hts (.fieldLink RX1 49 "Waxrow$House" "figureCount" "I") (by decide +kernel)) (fun _ h9 => h9) rfl dX1_figuresIn_8 ?_
    refine lv_icmp_ge (tgt := 51) hx hb dX1_figuresIn_11 (by decide) (fun c_11 => ?_) (fun c_11 => ?_)
    · refine lv_iload_n hx hb dX1_figuresIn_51 rfl (lv_at hl 3 rfl) ?_
      exact W.iret (v := sp_figIn σ x y n) hx hb hr (fun t ht hW9 => ⟨⟨(sp_figIn σ x y n), σ, rfl, ⟨by rw [hnN], rfl⟩, ⟨by rw [ht]; exact hW, va_K.moved hW9.alike hK⟩⟩, hS.F ht⟩) hS.2.2 dX1_figuresIn_52
    · exact absurd (by rw [hF, hnN]; exact nI_le (Nat.le_refl _) (by omega)) c_11
  | succ k ih =>
    intro n hn H locs hW hS ls hl
    have hnN : n < F := by omega
    refine lv_iload hx hb dX1_figuresIn_5 (lv_at hl 4 rfl) ?_
    refine lv_aload_n hx hb dX1_figuresIn_7 rfl (lv_at hl 0 rfl) ?_
    refine va_get (D := D) (ci := cHo) (C := RX1) (T := TX1) (N := 11) (ws := [(L 0 0, hs_ct d L σ 0 0)]) (v := .int (σ 0 0 4)) hx hb hts (by decide +kernel) hown hK (hW.one hs_ix0) 0 rfl rfl 4 (by decide) (hts (.fieldLink RX1 49 "Waxrow$House" "figureCount" "I") (by decide +kernel)) (fun _ h9 => h9) rfl dX1_figuresIn_8 ?_
    refine lv_icmp_ge (tgt := 51) hx hb dX1_figuresIn_11 (by decide) (fun c_11 => ?_) (fun c_11 => ?_)
    · exact absurd (by rw [hF] at c_11; exact c_11) (nI_ge hnN (by omega))
    · refine lv_aload_n hx hb dX1_figuresIn_14 rfl (lv_at hl 0 rfl) ?_
      refine va_get (D := D) (ci := cHo) (C := RX1) (T := TX1) (N := 11) (ws := [(L 0 0, hs_ct d L σ 0 0)]) (v := .ref (L 2 0)) hx hb hts (by decide +kernel) hown hK (hW.one hs_ix0) 0 rfl rfl 1 (by decide) (hts (.fieldLink RX1 22 "Waxrow$House" "figures" "[LWaxrow$Figure;") (by decide +kernel)) (fun _ h9 => h9) rfl dX1_figuresIn_15 ?_
      refine lv_iload hx hb dX1_figuresIn_18 (lv_at hl 4 rfl) ?_
      refine hs_aald (n := 8) (g := fun j => L 9 j) hx hb hK hW 2 2 hs_ix2 rfl rfl (vp_in_nI (show n < 8 by omega) (by decide)) dX1_figuresIn_20 ?_
      rw [nI_clamp (show n < 2 ^ 31 by omega)]
      refine va_get (D := D) (ci := cFi) (C := RX0) (T := TX0) (N := 11) (ws := [(L 9 n, hs_ct d L σ 9 n)]) (v := .int (σ 9 n 7)) hx hb hts (by decide +kernel) hown hK (hW.one (hs_ix9 (show n < 8 by omega))) 0 rfl rfl 7 (by decide) (hts (.fieldLink RX1 107 "Waxrow$Figure" "place" "I") (by decide +kernel)) (fun _ h9 => h9) rfl dX1_figuresIn_21 ?_
      refine lv_iload_n hx hb dX1_figuresIn_24 rfl (lv_at hl 1 rfl) ?_
      refine lv_icmp_lt (tgt := 45) hx hb dX1_figuresIn_25 (by decide) (fun c_25 => ?_) (fun c_25 => ?_)
      · refine lv_iinc (v := nI (n + 1)) (lv' := [(4, .int (nI (n + 1))), (0, .ref (L 0 0)), (1, .int x), (2, .int y), (3, .int (sp_figIn σ x y n))]) hx hb dX1_figuresIn_45 hl (k := 4) rfl (nI_succ _).symm (by decide) rfl (fun ls hl => ?_)
        refine lv_goto (tgt := 5) hx hb dX1_figuresIn_48 (by decide) ?_
        have e_3 : sp_figIn σ x y n = sp_figIn σ x y (n + 1) := by first | (simp only [sp_figIn, c_25, eq_self, ↓reduceIte]; done) | (simp [sp_figIn, c_25]; done)
        rw [e_3] at hl
        exact ih (n + 1) (by omega) _ _ hW hS ls (lv_sub hl [1, 2, 3, 4, 0] rfl)
      · refine lv_aload_n hx hb dX1_figuresIn_28 rfl (lv_at hl 0 rfl) ?_
        refine va_get (D := D) (ci := cHo) (C := RX1) (T := TX1) (N := 11) (ws := [(L 0 0, hs_ct d L σ 0 0)]) (v := .ref (L 2 0)) hx hb hts (by decide +kernel) hown hK (hW.one hs_ix0) 0 rfl rfl 1 (by decide) (hts (.fieldLink RX1 22 "Waxrow$House" "figures" "[LWaxrow$Figure;") (by decide +kernel)) (fun _ h9 => h9) rfl dX1_figuresIn_29 ?_
        refine lv_iload hx hb dX1_figuresIn_32 (lv_at hl 4 rfl) ?_
        refine hs_aald (n := 8) (g := fun j => L 9 j) hx hb hK hW 2 2 hs_ix2 rfl rfl (vp_in_nI (show n < 8 by omega) (by decide)) dX1_figuresIn_34 ?_
        rw [nI_clamp (show n < 2 ^ 31 by omega)]
        refine va_get (D := D) (ci := cFi) (C := RX0) (T := TX0) (N := 11) (ws := [(L 9 n, hs_ct d L σ 9 n)]) (v := .int (σ 9 n 7)) hx hb hts (by decide +kernel) hown hK (hW.one (hs_ix9 (show n < 8 by omega))) 0 rfl rfl 7 (by decide) (hts (.fieldLink RX1 107 "Waxrow$Figure" "place" "I") (by decide +kernel)) (fun _ h9 => h9) rfl dX1_figuresIn_35 ?_
        refine lv_iload_n hx hb dX1_figuresIn_38 rfl (lv_at hl 2 rfl) ?_
        refine lv_icmp_gt (tgt := 45) hx hb dX1_figuresIn_39 (by decide) (fun c_39 => ?_) (fun c_39 => ?_)
        · refine lv_iinc (v := nI (n + 1)) (lv' := [(4, .int (nI (n + 1))), (0, .ref (L 0 0)), (1, .int x), (2, .int y), (3, .int (sp_figIn σ x y n))]) hx hb dX1_figuresIn_45 hl (k := 4) rfl (nI_succ _).symm (by decide) rfl (fun ls hl => ?_)
          refine lv_goto (tgt := 5) hx hb dX1_figuresIn_48 (by decide) ?_
          have e_3 : sp_figIn σ x y n = sp_figIn σ x y (n + 1) := by first | (simp only [sp_figIn, c_25, c_39, eq_self, ↓reduceIte]; done) | (simp [sp_figIn, c_25, c_39]; done)
          rw [e_3] at hl
          exact ih (n + 1) (by omega) _ _ hW hS ls (lv_sub hl [1, 2, 3, 4, 0] rfl)
        · refine lv_iinc (v := (sp_figIn σ x y n) + 1) (lv' := [(3, .int ((sp_figIn σ x y n) + 1)), (0, .ref (L 0 0)), (1, .int x), (2, .int y), (4, .int (nI n))]) hx hb dX1_figuresIn_42 hl (k := 3) rfl rfl (by decide) rfl (fun ls hl => ?_)
          refine lv_iinc (v := nI (n + 1)) (lv' := [(4, .int (nI (n + 1))), (3, .int ((sp_figIn σ x y n) + 1)), (0, .ref (L 0 0)), (1, .int x), (2, .int y)]) hx hb dX1_figuresIn_45 hl (k := 4) rfl (nI_succ _).symm (by decide) rfl (fun ls hl => ?_)
          refine lv_goto (tgt := 5) hx hb dX1_figuresIn_48 (by decide) ?_
          have e_3 : (sp_figIn σ x y n) + 1 = sp_figIn σ x y (n + 1) := by first | (simp only [sp_figIn, c_25, c_39, eq_self, ↓reduceIte]; done) | (simp [sp_figIn, c_25, c_39]; done)
          rw [e_3] at hl
          exact ih (n + 1) (by omega) _ _ hW hS ls (lv_sub hl [2, 3, 4, 1, 0] rfl)
set_option maxHeartbeats 4000000 in
set_option maxRecDepth 100000 in
/-- figuresIn -/
theorem kX1_figuresIn (l : Launch) (D : va_G) (d : hs_Dm) (L : hs_Lo) (σ : hs_St) (A : Nat → Prop) (x y : Int32) (F : Nat) (hF : σ 0 0 4 = nI F) (hF8 : F ≤ 8) : hs_Mi l yX1_figuresIn wsX1_figuresIn ({ frames := 0, cells := 0, slots := 0, locals := 0 }) D d L σ A [.ref (L 0 0), .int x, .int y] (fun r τ => sp_figIn σ x y F = r ∧ σ = τ) := by
  refine Met.ofW (cc := cX1_figuresIn) (maxL := 5) (ret := (some .int)) (by decide) rfl ?_
  intro p e s m args below meth c s₁ B hml hv
  obtain ⟨rfl, ⟨hW, hK⟩, hE⟩ := hv
  have hx := B.exec
  have hb := B.bytes
  have hr := B.returns
  have hts := atoms_spec (ws := wsX1_figuresIn) B.pre
  have hown : s.vm.findClass RX1 = some m.cls := findClass_of_methodNamed B.named
  have hlocks := B.notSynchronized
  have hS : va_S A s.heap s.heap [] := va_S.rf
  have hW : hs_W D d L σ A s.heap := hW
  have hl := lv_entry ([.ref (L 0 0), .int x, .int y]) (n := 5) (Nat.le_of_ble_eq_true rfl)
  rw [lg_entry_eq]
  generalize (lg_sl ([.ref (L 0 0), .int x, .int y]) ++ List.replicate (5 - (lg_sl ([.ref (L 0 0), .int x, .int y])).length) Slot.unset).toArray = ls at hl ⊢
  have hl : lv_has ls 5 [(0, .ref (L 0 0)), (1, .int x), (2, .int y)] := hl
  refine lv_iconst (v := 0) hx hb dX1_figuresIn_0 (by decide) ?_
  refine lv_istore_n (lv' := [(3, .int 0), (0, .ref (L 0 0)), (1, .int x), (2, .int y)]) hx hb dX1_figuresIn_1 rfl hl (by decide) rfl (fun ls hl => ?_)
  refine lv_iconst (v := 0) hx hb dX1_figuresIn_2 (by decide) ?_
  refine lv_istore (lv' := [(4, .int 0), (3, .int 0), (0, .ref (L 0 0)), (1, .int x), (2, .int y)]) hx hb dX1_figuresIn_3 hl (by decide) rfl (fun ls hl => ?_)
  exact lkX1_figuresIn l D d L σ A x y F hF hF8 hx hb hr hts hown hlocks hml hK hE  F 0 (by omega) _ _ hW hS ls (lv_sub hl [2, 3, 4, 1, 0] rfl)
set_option maxHeartbeats 4000000 in
set_option maxRecDepth 100000 in
/-- figuresDone: the loop at 4 -/
theorem lkX1_figuresDone (l : Launch) (D : va_G) (d : hs_Dm) (L : hs_Lo) (σ : hs_St) (A : Nat → Prop) {p : Program} {e : Env} {s : State} {m : MethodId} {args : Array Value} {below : List Frame} {meth : Method} {c : Code}  (F : Nat) (hF : σ 0 0 4 = nI F) (hF8 : F ≤ 8)  (hx : p.tables.exec = Jvm.exec) (hb : c.code = cX1_figuresDone) (hr : meth.sig.returnType = (some .int)) (hts : ∀ w ∈ wsX1_figuresDone, w.before args s = true) (hown : s.vm.findClass RX1 = some m.cls) (hlocks : meth.locks = false) (hml : c.maxLocals = 3) (hK : va_K D vwCl (hs_ty d) s) (hE : hs_E d.2.2.2.2 A s)  : ∀ (k n : Nat), n + k = F → ∀ (H : Heap) (locs : List Loc), hs_W D d L σ A H → va_S A s.heap H locs → ∀ ls : Array Slot, lv_has ls 3 [(0, .ref (L 0 0)), (1, .int (sp_done σ n)), (2, .int (nI n))] → W p l e ({ frames := 1, cells := 0, slots := 0, locals := 20 } : Room) s m args below meth c H locs 0 0 (MQ below (va_Qi (fun r τ => sp_done σ F = r ∧ σ = τ) (fun τ t => hs_B D d L τ A t) A) args s 0 0 A) (F0 m 4 ls []) := by
  intro k
  induction k with
  | zero =>
    intro n hn H locs hW hS ls hl
    have hnN : n = F := by omega
    refine lv_iload_n hx hb dX1_figuresDone_4 rfl (lv_at hl 2 rfl) ?_
    refine lv_aload_n hx hb dX1_figuresDone_5 rfl (lv_at hl 0 rfl) ?_
    refine va_get (D := D) (ci := cHo) (C := RX1) (T := TX1) (N := 11) (ws := [(L 0 0, hs_ct d L σ 0 0)]) (v := .int (σ 0 0 4)) hx hb hts (by decide +kernel) hown hK (hW.one hs_ix0) 0 rfl rfl 4 (by decide) (hts (.fieldLink RX1 49 "Waxrow$House" "figureCount" "I") (by decide +kernel)) (fun _ h9 => h9) rfl dX1_figuresDone_6 ?_
    refine lv_icmp_ge (tgt := 33) hx hb dX1_figuresDone_9 (by decide) (fun c_9 => ?_) (fun c_9 => ?_)
    · refine lv_iload_n hx hb dX1_figuresDone_33 rfl (lv_at hl 1 rfl) ?_
      exact W.iret (v := sp_done σ n) hx hb hr (fun t ht hW9 => ⟨⟨(sp_done σ n), σ, rfl, ⟨by rw [hnN], rfl⟩, ⟨by rw [ht]; exact hW, va_K.moved hW9.alike hK⟩⟩, hS.F ht⟩) hS.2.2 dX1_figuresDone_34
    · exact absurd (by rw [hF, hnN]; exact nI_le (Nat.le_refl _) (by omega)) c_9
  | succ k ih =>
    intro n hn H locs hW hS ls hl
    have hnN : n < F := by omega
    refine lv_iload_n hx hb dX1_figuresDone_4 rfl (lv_at hl 2 rfl) ?_
    refine lv_aload_n hx hb dX1_figuresDone_5 rfl (lv_at hl 0 rfl) ?_
    refine va_get (D := D) (ci := cHo) (C := RX1) (T := TX1) (N := 11) (ws := [(L 0 0, hs_ct d L σ 0 0)]) (v := .int (σ 0 0 4)) hx hb hts (by decide +kernel) hown hK (hW.one hs_ix0) 0 rfl rfl 4 (by decide) (hts (.fieldLink RX1 49 "Waxrow$House" "figureCount" "I") (by decide +kernel)) (fun _ h9 => h9) rfl dX1_figuresDone_6 ?_
    refine lv_icmp_ge (tgt := 33) hx hb dX1_figuresDone_9 (by decide) (fun c_9 => ?_) (fun c_9 => ?_)
    · exact absurd (by rw [hF] at c_9; exact c_9) (nI_ge hnN (by omega))
    · refine lv_aload_n hx hb dX1_figuresDone_12 rfl (lv_at hl 0 rfl) ?_
      refine va_get (D := D) (ci := cHo) (C := RX1) (T := TX1) (N := 11) (ws := [(L 0 0, hs_ct d L σ 0 0)]) (v := .ref (L 2 0)) hx hb hts (by decide +kernel) hown hK (hW.one hs_ix0) 0 rfl rfl 1 (by decide) (hts (.fieldLink RX1 22 "Waxrow$House" "figures" "[LWaxrow$Figure;") (by decide +kernel)) (fun _ h9 => h9) rfl dX1_figuresDone_13 ?_
      refine lv_iload_n hx hb dX1_figuresDone_16 rfl (lv_at hl 2 rfl) ?_
      refine hs_aald (n := 8) (g := fun j => L 9 j) hx hb hK hW 2 2 hs_ix2 rfl rfl (vp_in_nI (show n < 8 by omega) (by decide)) dX1_figuresDone_17 ?_
      rw [nI_clamp (show n < 2 ^ 31 by omega)]
      refine hs_calli (As := []) ⟨hx, hb, hml, hown, hts⟩ (kX0_isDone l D d L σ A n (show n < 8 by omega)) (cwV 0 hts gX1_figuresDone_X0_isDone rfl rfl rfl (by decide +kernel) ⟨Nat.le_of_ble_eq_true rfl, Nat.le_of_ble_eq_true rfl⟩) hK hE hW hS (hs_ix9 (show n < 8 by omega)) (ci := cFi) (r := (RX0, TX0, 11)) rfl rfl rfl rfl hl.1 (Nat.le_of_ble_eq_true rfl) dX1_figuresDone_18 ⟨Nat.zero_le _, Nat.zero_le _⟩ rfl (fun r_ τ_ H locs hp hW hS => ?_)
      obtain ⟨rfl, rfl⟩ := hp
      refine lv_if_eq (tgt := 27) hx hb dX1_figuresDone_21 (by decide) (fun c_21 => ?_) (fun c_21 => ?_)
      · refine lv_iinc (v := nI (n + 1)) (lv' := [(2, .int (nI (n + 1))), (0, .ref (L 0 0)), (1, .int (sp_done σ n))]) hx hb dX1_figuresDone_27 hl (k := 2) rfl (nI_succ _).symm (by decide) rfl (fun ls hl => ?_)
        refine lv_goto (tgt := 4) hx hb dX1_figuresDone_30 (by decide) ?_
        have e_1 : sp_done σ n = sp_done σ (n + 1) := by first | (simp only [sp_done, c_21, eq_self, ↓reduceIte]; done) | (simp [sp_done, c_21]; done)
        rw [e_1] at hl
        exact ih (n + 1) (by omega) _ _ hW hS ls (lv_sub hl [1, 2, 0] rfl)
      · refine lv_iinc (v := (sp_done σ n) + 1) (lv' := [(1, .int ((sp_done σ n) + 1)), (0, .ref (L 0 0)), (2, .int (nI n))]) hx hb dX1_figuresDone_24 hl (k := 1) rfl rfl (by decide) rfl (fun ls hl => ?_)
        refine lv_iinc (v := nI (n + 1)) (lv' := [(2, .int (nI (n + 1))), (1, .int ((sp_done σ n) + 1)), (0, .ref (L 0 0))]) hx hb dX1_figuresDone_27 hl (k := 2) rfl (nI_succ _).symm (by decide) rfl (fun ls hl => ?_)
        refine lv_goto (tgt := 4) hx hb dX1_figuresDone_30 (by decide) ?_
        have e_1 : (sp_done σ n) + 1 = sp_done σ (n + 1) := by first | (simp only [sp_done, c_21, eq_self, ↓reduceIte]; done) | (simp [sp_done, c_21]; done)
        rw [e_1] at hl
        exact ih (n + 1) (by omega) _ _ hW hS ls (lv_sub hl [2, 1, 0] rfl)
set_option maxHeartbeats 4000000 in
set_option maxRecDepth 100000 in
/-- figuresDone -/
theorem kX1_figuresDone (l : Launch) (D : va_G) (d : hs_Dm) (L : hs_Lo) (σ : hs_St) (A : Nat → Prop)  (F : Nat) (hF : σ 0 0 4 = nI F) (hF8 : F ≤ 8) : hs_Mi l yX1_figuresDone wsX1_figuresDone ({ frames := 1, cells := 0, slots := 0, locals := 20 }) D d L σ A [.ref (L 0 0)] (fun r τ => sp_done σ F = r ∧ σ = τ) := by
  refine Met.ofW (cc := cX1_figuresDone) (maxL := 3) (ret := (some .int)) (by decide) rfl ?_
  intro p e s m args below meth c s₁ B hml hv
  obtain ⟨rfl, ⟨hW, hK⟩, hE⟩ := hv
  have hx := B.exec
  have hb := B.bytes
  have hr := B.returns
  have hts := atoms_spec (ws := wsX1_figuresDone) B.pre
  have hown : s.vm.findClass RX1 = some m.cls := findClass_of_methodNamed B.named
  have hlocks := B.notSynchronized
  have hS : va_S A s.heap s.heap [] := va_S.rf
  have hW : hs_W D d L σ A s.heap := hW
  have hl := lv_entry ([.ref (L 0 0)]) (n := 3) (Nat.le_of_ble_eq_true rfl)
  rw [lg_entry_eq]
  generalize (lg_sl ([.ref (L 0 0)]) ++ List.replicate (3 - (lg_sl ([.ref (L 0 0)])).length) Slot.unset).toArray = ls at hl ⊢
  have hl : lv_has ls 3 [(0, .ref (L 0 0))] := hl
  refine lv_iconst (v := 0) hx hb dX1_figuresDone_0 (by decide) ?_
  refine lv_istore_n (lv' := [(1, .int 0), (0, .ref (L 0 0))]) hx hb dX1_figuresDone_1 rfl hl (by decide) rfl (fun ls hl => ?_)
  refine lv_iconst (v := 0) hx hb dX1_figuresDone_2 (by decide) ?_
  refine lv_istore_n (lv' := [(2, .int 0), (1, .int 0), (0, .ref (L 0 0))]) hx hb dX1_figuresDone_3 rfl hl (by decide) rfl (fun ls hl => ?_)
  exact lkX1_figuresDone l D d L σ A  F hF hF8 hx hb hr hts hown hlocks hml hK hE  F 0 (by omega) _ _ hW hS ls (lv_sub hl [2, 1, 0] rfl)
set_option maxHeartbeats 4000000 in
set_option maxRecDepth 100000 in
/-- drawsIn: the loop at 5 -/
theorem lkX1_drawsIn (l : Launch) (D : va_G) (d : hs_Dm) (L : hs_Lo) (σ : hs_St) (A : Nat → Prop) {p : Program} {e : Env} {s : State} {m : MethodId} {args : Array Value} {below : List Frame} {meth : Method} {c : Code} (x y : Int32) (F : Nat) (hF : σ 0 0 4 = nI F) (hF8 : F ≤ 8) (hh : hs_hd σ)  (hx : p.tables.exec = Jvm.exec) (hb : c.code = cX1_drawsIn) (hr : meth.sig.returnType = (some .int)) (hts : ∀ w ∈ wsX1_drawsIn, w.before args s = true) (hown : s.vm.findClass RX1 = some m.cls) (hlocks : meth.locks = false) (hml : c.maxLocals = 5) (hK : va_K D vwCl (hs_ty d) s) (hE : hs_E d.2.2.2.2 A s)  : ∀ (k n : Nat), n + k = F → ∀ (H : Heap) (locs : List Loc), hs_W D d L σ A H → va_S A s.heap H locs → ∀ ls : Array Slot, lv_has ls 5 [(0, .ref (L 0 0)), (1, .int x), (2, .int y), (3, .int (sp_draws σ x y n)), (4, .int (nI n))] → W p l e ({ frames := 3, cells := 0, slots := 0, locals := 63 } : Room) s m args below meth c H locs 0 0 (MQ below (va_Qi (fun r τ => sp_draws σ x y F = r ∧ σ = τ) (fun τ t => hs_B D d L τ A t) A) args s 0 0 A) (F0 m 5 ls []) := by
  intro k
  induction k with
  | zero =>
    intro n hn H locs hW hS ls hl
    have hnN : n = F := by omega
    refine lv_iload hx hb dX1_drawsIn_5 (lv_at hl 4 rfl) ?_
    refine lv_aload_n hx hb dX1_drawsIn_7 rfl (lv_at hl 0 rfl) ?_
    refine va_get (D := D) (ci := cHo) (C := RX1) (T := TX1) (N := 11) (ws := [(L 0 0, hs_ct d L σ 0 0)]) (v := .int (σ 0 0 4)) hx hb hts (by decide +kernel) hown hK (hW.one hs_ix0) 0 rfl rfl 4 (by decide) (hts (.fieldLink RX1 49 "Waxrow$House" "figureCount" "I") (by decide +kernel)) (fun _ h9 => h9) rfl dX1_drawsIn_8 ?_
    refine lv_icmp_ge (tgt := 61) hx hb dX1_drawsIn_11 (by decide) (fun c_11 => ?_) (fun c_11 => ?_)
    · refine lv_iload_n hx hb dX1_drawsIn_61 rfl (lv_at hl 3 rfl) ?_
      exact W.iret (v := sp_draws σ x y n) hx hb hr (fun t ht hW9 => ⟨⟨(sp_draws σ x y n), σ, rfl, ⟨by rw [hnN], rfl⟩, ⟨by rw [ht]; exact hW, va_K.moved hW9.alike hK⟩⟩, hS.F ht⟩) hS.2.2 dX1_drawsIn_62
    · exact absurd (by rw [hF, hnN]; exact nI_le (Nat.le_refl _) (by omega)) c_11
  | succ k ih =>
    intro n hn H locs hW hS ls hl
    have hnN : n < F := by omega
    refine lv_iload hx hb dX1_drawsIn_5 (lv_at hl 4 rfl) ?_
    refine lv_aload_n hx hb dX1_drawsIn_7 rfl (lv_at hl 0 rfl) ?_
    refine va_get (D := D) (ci := cHo) (C := RX1) (T := TX1) (N := 11) (ws := [(L 0 0, hs_ct d L σ 0 0)]) (v := .int (σ 0 0 4)) hx hb hts (by decide +kernel) hown hK (hW.one hs_ix0) 0 rfl rfl 4 (by decide) (hts (.fieldLink RX1 49 "Waxrow$House" "figureCount" "I") (by decide +kernel)) (fun _ h9 => h9) rfl dX1_drawsIn_8 ?_
    refine lv_icmp_ge (tgt := 61) hx hb dX1_drawsIn_11 (by decide) (fun c_11 => ?_) (fun c_11 => ?_)
    · exact absurd (by rw [hF] at c_11; exact c_11) (nI_ge hnN (by omega))
    · refine lv_aload_n hx hb dX1_drawsIn_14 rfl (lv_at hl 0 rfl) ?_
      refine va_get (D := D) (ci := cHo) (C := RX1) (T := TX1) (N := 11) (ws := [(L 0 0, hs_ct d L σ 0 0)]) (v := .ref (L 2 0)) hx hb hts (by decide +kernel) hown hK (hW.one hs_ix0) 0 rfl rfl 1 (by decide) (hts (.fieldLink RX1 22 "Waxrow$House" "figures" "[LWaxrow$Figure;") (by decide +kernel)) (fun _ h9 => h9) rfl dX1_drawsIn_15 ?_
      refine lv_iload hx hb dX1_drawsIn_18 (lv_at hl 4 rfl) ?_
      refine hs_aald (n := 8) (g := fun j => L 9 j) hx hb hK hW 2 2 hs_ix2 rfl rfl (vp_in_nI (show n < 8 by omega) (by decide)) dX1_drawsIn_20 ?_
      rw [nI_clamp (show n < 2 ^ 31 by omega)]
      refine va_get (D := D) (ci := cFi) (C := RX0) (T := TX0) (N := 11) (ws := [(L 9 n, hs_ct d L σ 9 n)]) (v := .int (σ 9 n 7)) hx hb hts (by decide +kernel) hown hK (hW.one (hs_ix9 (show n < 8 by omega))) 0 rfl rfl 7 (by decide) (hts (.fieldLink RX1 107 "Waxrow$Figure" "place" "I") (by decide +kernel)) (fun _ h9 => h9) rfl dX1_drawsIn_21 ?_
      refine lv_iload_n hx hb dX1_drawsIn_24 rfl (lv_at hl 1 rfl) ?_
      refine lv_icmp_lt (tgt := 55) hx hb dX1_drawsIn_25 (by decide) (fun c_25 => ?_) (fun c_25 => ?_)
      · refine lv_iinc (v := nI (n + 1)) (lv' := [(4, .int (nI (n + 1))), (0, .ref (L 0 0)), (1, .int x), (2, .int y), (3, .int (sp_draws σ x y n))]) hx hb dX1_drawsIn_55 hl (k := 4) rfl (nI_succ _).symm (by decide) rfl (fun ls hl => ?_)
        refine lv_goto (tgt := 5) hx hb dX1_drawsIn_58 (by decide) ?_
        have e_3 : sp_draws σ x y n = sp_draws σ x y (n + 1) := by first | (simp only [sp_draws, c_25, eq_self, ↓reduceIte]; done) | (simp [sp_draws, c_25]; done)
        rw [e_3] at hl
        exact ih (n + 1) (by omega) _ _ hW hS ls (lv_sub hl [1, 2, 3, 4, 0] rfl)
      · refine lv_aload_n hx hb dX1_drawsIn_28 rfl (lv_at hl 0 rfl) ?_
        refine va_get (D := D) (ci := cHo) (C := RX1) (T := TX1) (N := 11) (ws := [(L 0 0, hs_ct d L σ 0 0)]) (v := .ref (L 2 0)) hx hb hts (by decide +kernel) hown hK (hW.one hs_ix0) 0 rfl rfl 1 (by decide) (hts (.fieldLink RX1 22 "Waxrow$House" "figures" "[LWaxrow$Figure;") (by decide +kernel)) (fun _ h9 => h9) rfl dX1_drawsIn_29 ?_
        refine lv_iload hx hb dX1_drawsIn_32 (lv_at hl 4 rfl) ?_
        refine hs_aald (n := 8) (g := fun j => L 9 j) hx hb hK hW 2 2 hs_ix2 rfl rfl (vp_in_nI (show n < 8 by omega) (by decide)) dX1_drawsIn_34 ?_
        rw [nI_clamp (show n < 2 ^ 31 by omega)]
        refine va_get (D := D) (ci := cFi) (C := RX0) (T := TX0) (N := 11) (ws := [(L 9 n, hs_ct d L σ 9 n)]) (v := .int (σ 9 n 7)) hx hb hts (by decide +kernel) hown hK (hW.one (hs_ix9 (show n < 8 by omega))) 0 rfl rfl 7 (by decide) (hts (.fieldLink RX1 107 "Waxrow$Figure" "place" "I") (by decide +kernel)) (fun _ h9 => h9) rfl dX1_drawsIn_35 ?_
        refine lv_iload_n hx hb dX1_drawsIn_38 rfl (lv_at hl 2 rfl) ?_
        refine lv_icmp_gt (tgt := 55) hx hb dX1_drawsIn_39 (by decide) (fun c_39 => ?_) (fun c_39 => ?_)
        · refine lv_iinc (v := nI (n + 1)) (lv' := [(4, .int (nI (n + 1))), (0, .ref (L 0 0)), (1, .int x), (2, .int y), (3, .int (sp_draws σ x y n))]) hx hb dX1_drawsIn_55 hl (k := 4) rfl (nI_succ _).symm (by decide) rfl (fun ls hl => ?_)
          refine lv_goto (tgt := 5) hx hb dX1_drawsIn_58 (by decide) ?_
          have e_3 : sp_draws σ x y n = sp_draws σ x y (n + 1) := by first | (simp only [sp_draws, c_25, c_39, eq_self, ↓reduceIte]; done) | (simp [sp_draws, c_25, c_39]; done)
          rw [e_3] at hl
          exact ih (n + 1) (by omega) _ _ hW hS ls (lv_sub hl [1, 2, 3, 4, 0] rfl)
        · refine lv_iload_n hx hb dX1_drawsIn_42 rfl (lv_at hl 3 rfl) ?_
          refine lv_aload_n hx hb dX1_drawsIn_43 rfl (lv_at hl 0 rfl) ?_
          refine va_get (D := D) (ci := cHo) (C := RX1) (T := TX1) (N := 11) (ws := [(L 0 0, hs_ct d L σ 0 0)]) (v := .ref (L 2 0)) hx hb hts (by decide +kernel) hown hK (hW.one hs_ix0) 0 rfl rfl 1 (by decide) (hts (.fieldLink RX1 22 "Waxrow$House" "figures" "[LWaxrow$Figure;") (by decide +kernel)) (fun _ h9 => h9) rfl dX1_drawsIn_44 ?_
          refine lv_iload hx hb dX1_drawsIn_47 (lv_at hl 4 rfl) ?_
          refine hs_aald (n := 8) (g := fun j => L 9 j) hx hb hK hW 2 2 hs_ix2 rfl rfl (vp_in_nI (show n < 8 by omega) (by decide)) dX1_drawsIn_49 ?_
          rw [nI_clamp (show n < 2 ^ 31 by omega)]
          refine hs_calli (As := []) ⟨hx, hb, hml, hown, hts⟩ (kX0_draw l D d L σ A n (show n < 8 by omega) hh) (cwV 0 hts gX1_drawsIn_X0_draw rfl rfl rfl (by decide +kernel) ⟨Nat.le_of_ble_eq_true rfl, Nat.le_of_ble_eq_true rfl⟩) hK hE hW hS (hs_ix9 (show n < 8 by omega)) (ci := cFi) (r := (RX0, TX0, 11)) rfl rfl rfl rfl hl.1 (Nat.le_of_ble_eq_true rfl) dX1_drawsIn_50 ⟨Nat.zero_le _, Nat.zero_le _⟩ rfl (fun r_ τ_ H locs hp hW hS => ?_)
          obtain ⟨rfl, rfl⟩ := hp
          refine lv_iadd hx hb dX1_drawsIn_53 ?_
          refine lv_istore_n (lv' := [(3, .int ((sp_draws σ x y n) + (sp_draw σ n))), (0, .ref (L 0 0)), (1, .int x), (2, .int y), (4, .int (nI n))]) hx hb dX1_drawsIn_54 rfl hl (by decide) rfl (fun ls hl => ?_)
          refine lv_iinc (v := nI (n + 1)) (lv' := [(4, .int (nI (n + 1))), (3, .int ((sp_draws σ x y n) + (sp_draw σ n))), (0, .ref (L 0 0)), (1, .int x), (2, .int y)]) hx hb dX1_drawsIn_55 hl (k := 4) rfl (nI_succ _).symm (by decide) rfl (fun ls hl => ?_)
          refine lv_goto (tgt := 5) hx hb dX1_drawsIn_58 (by decide) ?_
          have e_3 : (sp_draws σ x y n) + (sp_draw σ n) = sp_draws σ x y (n + 1) := by first | (simp only [sp_draws, c_25, c_39, eq_self, ↓reduceIte]; done) | (simp [sp_draws, c_25, c_39]; done)
          rw [e_3] at hl
          exact ih (n + 1) (by omega) _ _ hW hS ls (lv_sub hl [2, 3, 4, 1, 0] rfl)
set_option maxHeartbeats 4000000 in
set_option maxRecDepth 100000 in
/-- drawsIn -/
theorem kX1_drawsIn (l : Launch) (D : va_G) (d : hs_Dm) (L : hs_Lo) (σ : hs_St) (A : Nat → Prop) (x y : Int32) (F : Nat) (hF : σ 0 0 4 = nI F) (hF8 : F ≤ 8) (hh : hs_hd σ) : hs_Mi l yX1_drawsIn wsX1_drawsIn ({ frames := 3, cells := 0, slots := 0, locals := 63 }) D d L σ A [.ref (L 0 0), .int x, .int y] (fun r τ => sp_draws σ x y F = r ∧ σ = τ) := by
  refine Met.ofW (cc := cX1_drawsIn) (maxL := 5) (ret := (some .int)) (by decide) rfl ?_
  intro p e s m args below meth c s₁ B hml hv
  obtain ⟨rfl, ⟨hW, hK⟩, hE⟩ := hv
  have hx := B.exec
  have hb := B.bytes
  have hr := B.returns
  have hts := atoms_spec (ws := wsX1_drawsIn) B.pre
  have hown : s.vm.findClass RX1 = some m.cls := findClass_of_methodNamed B.named
  have hlocks := B.notSynchronized
  have hS : va_S A s.heap s.heap [] := va_S.rf
  have hW : hs_W D d L σ A s.heap := hW
  have hl := lv_entry ([.ref (L 0 0), .int x, .int y]) (n := 5) (Nat.le_of_ble_eq_true rfl)
  rw [lg_entry_eq]
  generalize (lg_sl ([.ref (L 0 0), .int x, .int y]) ++ List.replicate (5 - (lg_sl ([.ref (L 0 0), .int x, .int y])).length) Slot.unset).toArray = ls at hl ⊢
  have hl : lv_has ls 5 [(0, .ref (L 0 0)), (1, .int x), (2, .int y)] := hl
  refine lv_iconst (v := 0) hx hb dX1_drawsIn_0 (by decide) ?_
  refine lv_istore_n (lv' := [(3, .int 0), (0, .ref (L 0 0)), (1, .int x), (2, .int y)]) hx hb dX1_drawsIn_1 rfl hl (by decide) rfl (fun ls hl => ?_)
  refine lv_iconst (v := 0) hx hb dX1_drawsIn_2 (by decide) ?_
  refine lv_istore (lv' := [(4, .int 0), (3, .int 0), (0, .ref (L 0 0)), (1, .int x), (2, .int y)]) hx hb dX1_drawsIn_3 hl (by decide) rfl (fun ls hl => ?_)
  exact lkX1_drawsIn l D d L σ A x y F hF hF8 hh hx hb hr hts hown hlocks hml hK hE  F 0 (by omega) _ _ hW hS ls (lv_sub hl [2, 3, 4, 1, 0] rfl)
set_option maxHeartbeats 4000000 in
set_option maxRecDepth 100000 in
/-- likenessShown: the loop at 4 -/
theorem lkX1_likenessShown (l : Launch) (D : va_G) (d : hs_Dm) (L : hs_Lo) (σ : hs_St) (A : Nat → Prop) {p : Program} {e : Env} {s : State} {m : MethodId} {args : Array Value} {below : List Frame} {meth : Method} {c : Code}  (F : Nat) (hF : σ 0 0 4 = nI F) (hF8 : F ≤ 8) (hh : hs_hd σ)  (hx : p.tables.exec = Jvm.exec) (hb : c.code = cX1_likenessShown) (hr : meth.sig.returnType = (some .int)) (hts : ∀ w ∈ wsX1_likenessShown, w.before args s = true) (hown : s.vm.findClass RX1 = some m.cls) (hlocks : meth.locks = false) (hml : c.maxLocals = 3) (hK : va_K D vwCl (hs_ty d) s) (hE : hs_E d.2.2.2.2 A s)  : ∀ (k n : Nat), n + k = F → ∀ (H : Heap) (locs : List Loc), hs_W D d L σ A H → va_S A s.heap H locs → ∀ ls : Array Slot, lv_has ls 3 [(0, .ref (L 0 0)), (1, .int (sp_liked σ n)), (2, .int (nI n))] → W p l e ({ frames := 2, cells := 0, slots := 0, locals := 43 } : Room) s m args below meth c H locs 0 0 (MQ below (va_Qi (fun r τ => sp_liked σ F = r ∧ σ = τ) (fun τ t => hs_B D d L τ A t) A) args s 0 0 A) (F0 m 4 ls []) := by
  intro k
  induction k with
  | zero =>
    intro n hn H locs hW hS ls hl
    have hnN : n = F := by omega
    refine lv_iload_n hx hb dX1_likenessShown_4 rfl (lv_at hl 2 rfl) ?_
    refine lv_aload_n hx hb dX1_likenessShown_5 rfl (lv_at hl 0 rfl) ?_
    refine va_get (D := D) (ci := cHo) (C := RX1) (T := TX1) (N := 11) (ws := [(L 0 0, hs_ct d L σ 0 0)]) (v := .int (σ 0 0 4)) hx hb hts (by decide +kernel) hown hK (hW.one hs_ix0) 0 rfl rfl 4 (by decide) (hts (.fieldLink RX1 49 "Waxrow$House" "figureCount" "I") (by decide +kernel)) (fun _ h9 => h9) rfl dX1_likenessShown_6 ?_
    refine lv_icmp_ge (tgt := 42) hx hb dX1_likenessShown_9 (by decide) (fun c_9 => ?_) (fun c_9 => ?_)
    · refine lv_iload_n hx hb dX1_likenessShown_42 rfl (lv_at hl 1 rfl) ?_
      exact W.iret (v := sp_liked σ n) hx hb hr (fun t ht hW9 => ⟨⟨(sp_liked σ n), σ, rfl, ⟨by rw [hnN], rfl⟩, ⟨by rw [ht]; exact hW, va_K.moved hW9.alike hK⟩⟩, hS.F ht⟩) hS.2.2 dX1_likenessShown_43
    · exact absurd (by rw [hF, hnN]; exact nI_le (Nat.le_refl _) (by omega)) c_9
  | succ k ih =>
    intro n hn H locs hW hS ls hl
    have hnN : n < F := by omega
    refine lv_iload_n hx hb dX1_likenessShown_4 rfl (lv_at hl 2 rfl) ?_
    refine lv_aload_n hx hb dX1_likenessShown_5 rfl (lv_at hl 0 rfl) ?_
    refine va_get (D := D) (ci := cHo) (C := RX1) (T := TX1) (N := 11) (ws := [(L 0 0, hs_ct d L σ 0 0)]) (v := .int (σ 0 0 4)) hx hb hts (by decide +kernel) hown hK (hW.one hs_ix0) 0 rfl rfl 4 (by decide) (hts (.fieldLink RX1 49 "Waxrow$House" "figureCount" "I") (by decide +kernel)) (fun _ h9 => h9) rfl dX1_likenessShown_6 ?_
    refine lv_icmp_ge (tgt := 42) hx hb dX1_likenessShown_9 (by decide) (fun c_9 => ?_) (fun c_9 => ?_)
    · exact absurd (by rw [hF] at c_9; exact c_9) (nI_ge hnN (by omega))
    · refine lv_aload_n hx hb dX1_likenessShown_12 rfl (lv_at hl 0 rfl) ?_
      refine va_get (D := D) (ci := cHo) (C := RX1) (T := TX1) (N := 11) (ws := [(L 0 0, hs_ct d L σ 0 0)]) (v := .ref (L 2 0)) hx hb hts (by decide +kernel) hown hK (hW.one hs_ix0) 0 rfl rfl 1 (by decide) (hts (.fieldLink RX1 22 "Waxrow$House" "figures" "[LWaxrow$Figure;") (by decide +kernel)) (fun _ h9 => h9) rfl dX1_likenessShown_13 ?_
      refine lv_iload_n hx hb dX1_likenessShown_16 rfl (lv_at hl 2 rfl) ?_
      refine hs_aald (n := 8) (g := fun j => L 9 j) hx hb hK hW 2 2 hs_ix2 rfl rfl (vp_in_nI (show n < 8 by omega) (by decide)) dX1_likenessShown_17 ?_
      rw [nI_clamp (show n < 2 ^ 31 by omega)]
      refine hs_calli (As := []) ⟨hx, hb, hml, hown, hts⟩ (kX0_isShown l D d L σ A n (show n < 8 by omega)) (cwV 0 hts gX1_likenessShown_X0_isShown rfl rfl rfl (by decide +kernel) ⟨Nat.le_of_ble_eq_true rfl, Nat.le_of_ble_eq_true rfl⟩) hK hE hW hS (hs_ix9 (show n < 8 by omega)) (ci := cFi) (r := (RX0, TX0, 11)) rfl rfl rfl rfl hl.1 (Nat.le_of_ble_eq_true rfl) dX1_likenessShown_18 ⟨Nat.zero_le _, Nat.zero_le _⟩ rfl (fun r_ τ_ H locs hp hW hS => ?_)
      obtain ⟨rfl, rfl⟩ := hp
      refine lv_if_eq (tgt := 36) hx hb dX1_likenessShown_21 (by decide) (fun c_21 => ?_) (fun c_21 => ?_)
      · refine lv_iinc (v := nI (n + 1)) (lv' := [(2, .int (nI (n + 1))), (0, .ref (L 0 0)), (1, .int (sp_liked σ n))]) hx hb dX1_likenessShown_36 hl (k := 2) rfl (nI_succ _).symm (by decide) rfl (fun ls hl => ?_)
        refine lv_goto (tgt := 4) hx hb dX1_likenessShown_39 (by decide) ?_
        have e_1 : sp_liked σ n = sp_liked σ (n + 1) := by first | (simp only [sp_liked, c_21, eq_self, ↓reduceIte]; done) | (simp [sp_liked, c_21]; done)
        rw [e_1] at hl
        exact ih (n + 1) (by omega) _ _ hW hS ls (lv_sub hl [1, 2, 0] rfl)
      · refine lv_iload_n hx hb dX1_likenessShown_24 rfl (lv_at hl 1 rfl) ?_
        refine lv_aload_n hx hb dX1_likenessShown_25 rfl (lv_at hl 0 rfl) ?_
        refine va_get (D := D) (ci := cHo) (C := RX1) (T := TX1) (N := 11) (ws := [(L 0 0, hs_ct d L σ 0 0)]) (v := .ref (L 2 0)) hx hb hts (by decide +kernel) hown hK (hW.one hs_ix0) 0 rfl rfl 1 (by decide) (hts (.fieldLink RX1 22 "Waxrow$House" "figures" "[LWaxrow$Figure;") (by decide +kernel)) (fun _ h9 => h9) rfl dX1_likenessShown_26 ?_
        refine lv_iload_n hx hb dX1_likenessShown_29 rfl (lv_at hl 2 rfl) ?_
        refine hs_aald (n := 8) (g := fun j => L 9 j) hx hb hK hW 2 2 hs_ix2 rfl rfl (vp_in_nI (show n < 8 by omega) (by decide)) dX1_likenessShown_30 ?_
        rw [nI_clamp (show n < 2 ^ 31 by omega)]
        refine hs_calli (As := []) ⟨hx, hb, hml, hown, hts⟩ (kX0_likeness l D d L σ A n (show n < 8 by omega) hh) (cwV 0 hts gX1_likenessShown_X0_likeness rfl rfl rfl (by decide +kernel) ⟨Nat.le_of_ble_eq_true rfl, Nat.le_of_ble_eq_true rfl⟩) hK hE hW hS (hs_ix9 (show n < 8 by omega)) (ci := cFi) (r := (RX0, TX0, 11)) rfl rfl rfl rfl hl.1 (Nat.le_of_ble_eq_true rfl) dX1_likenessShown_31 ⟨Nat.zero_le _, Nat.zero_le _⟩ rfl (fun r_ τ_ H locs hp hW hS => ?_)
        obtain ⟨rfl, rfl⟩ := hp
        refine lv_iadd hx hb dX1_likenessShown_34 ?_
        refine lv_istore_n (lv' := [(1, .int ((sp_liked σ n) + (sp_likeness σ n))), (0, .ref (L 0 0)), (2, .int (nI n))]) hx hb dX1_likenessShown_35 rfl hl (by decide) rfl (fun ls hl => ?_)
        refine lv_iinc (v := nI (n + 1)) (lv' := [(2, .int (nI (n + 1))), (1, .int ((sp_liked σ n) + (sp_likeness σ n))), (0, .ref (L 0 0))]) hx hb dX1_likenessShown_36 hl (k := 2) rfl (nI_succ _).symm (by decide) rfl (fun ls hl => ?_)
        refine lv_goto (tgt := 4) hx hb dX1_likenessShown_39 (by decide) ?_
        have e_1 : (sp_liked σ n) + (sp_likeness σ n) = sp_liked σ (n + 1) := by first | (simp only [sp_liked, c_21, eq_self, ↓reduceIte]; done) | (simp [sp_liked, c_21]; done)
        rw [e_1] at hl
        exact ih (n + 1) (by omega) _ _ hW hS ls (lv_sub hl [2, 1, 0] rfl)
set_option maxHeartbeats 4000000 in
set_option maxRecDepth 100000 in
/-- likenessShown -/
theorem kX1_likenessShown (l : Launch) (D : va_G) (d : hs_Dm) (L : hs_Lo) (σ : hs_St) (A : Nat → Prop)  (F : Nat) (hF : σ 0 0 4 = nI F) (hF8 : F ≤ 8) (hh : hs_hd σ) : hs_Mi l yX1_likenessShown wsX1_likenessShown ({ frames := 2, cells := 0, slots := 0, locals := 43 }) D d L σ A [.ref (L 0 0)] (fun r τ => sp_liked σ F = r ∧ σ = τ) := by
  refine Met.ofW (cc := cX1_likenessShown) (maxL := 3) (ret := (some .int)) (by decide) rfl ?_
  intro p e s m args below meth c s₁ B hml hv
  obtain ⟨rfl, ⟨hW, hK⟩, hE⟩ := hv
  have hx := B.exec
  have hb := B.bytes
  have hr := B.returns
  have hts := atoms_spec (ws := wsX1_likenessShown) B.pre
  have hown : s.vm.findClass RX1 = some m.cls := findClass_of_methodNamed B.named
  have hlocks := B.notSynchronized
  have hS : va_S A s.heap s.heap [] := va_S.rf
  have hW : hs_W D d L σ A s.heap := hW
  have hl := lv_entry ([.ref (L 0 0)]) (n := 3) (Nat.le_of_ble_eq_true rfl)
  rw [lg_entry_eq]
  generalize (lg_sl ([.ref (L 0 0)]) ++ List.replicate (3 - (lg_sl ([.ref (L 0 0)])).length) Slot.unset).toArray = ls at hl ⊢
  have hl : lv_has ls 3 [(0, .ref (L 0 0))] := hl
  refine lv_iconst (v := 0) hx hb dX1_likenessShown_0 (by decide) ?_
  refine lv_istore_n (lv' := [(1, .int 0), (0, .ref (L 0 0))]) hx hb dX1_likenessShown_1 rfl hl (by decide) rfl (fun ls hl => ?_)
  refine lv_iconst (v := 0) hx hb dX1_likenessShown_2 (by decide) ?_
  refine lv_istore_n (lv' := [(2, .int 0), (1, .int 0), (0, .ref (L 0 0))]) hx hb dX1_likenessShown_3 rfl hl (by decide) rfl (fun ls hl => ?_)
  exact lkX1_likenessShown l D d L σ A  F hF hF8 hh hx hb hr hts hown hlocks hml hK hE  F 0 (by omega) _ _ hW hS ls (lv_sub hl [2, 1, 0] rfl)
set_option maxHeartbeats 4000000 in
set_option maxRecDepth 100000 in
/-- allDue: the loop at 4 -/
theorem lkX1_allDue (l : Launch) (D : va_G) (d : hs_Dm) (L : hs_Lo) (σ : hs_St) (A : Nat → Prop) {p : Program} {e : Env} {s : State} {m : MethodId} {args : Array Value} {below : List Frame} {meth : Method} {c : Code}  (P : Nat) (hP : σ 0 0 3 = nI P) (hP10 : P ≤ 10)  (hx : p.tables.exec = Jvm.exec) (hb : c.code = cX1_allDue) (hr : meth.sig.returnType = (some .int)) (hts : ∀ w ∈ wsX1_allDue, w.before args s = true) (hown : s.vm.findClass RX1 = some m.cls) (hlocks : meth.locks = false) (hml : c.maxLocals = 3) (hK : va_K D vwCl (hs_ty d) s) (hE : hs_E d.2.2.2.2 A s)  : ∀ (k n : Nat), n + k = P → ∀ (H : Heap) (locs : List Loc), hs_W D d L σ A H → va_S A s.heap H locs → ∀ ls : Array Slot, lv_has ls 3 [(0, .ref (L 0 0)), (1, .int (sp_due σ n)), (2, .int (nI n))] → W p l e ({ frames := 0, cells := 0, slots := 0, locals := 0 } : Room) s m args below meth c H locs 0 0 (MQ below (va_Qi (fun r τ => sp_due σ P = r ∧ σ = τ) (fun τ t => hs_B D d L τ A t) A) args s 0 0 A) (F0 m 4 ls []) := by
  intro k
  induction k with
  | zero =>
    intro n hn H locs hW hS ls hl
    have hnN : n = P := by omega
    refine lv_iload_n hx hb dX1_allDue_4 rfl (lv_at hl 2 rfl) ?_
    refine lv_aload_n hx hb dX1_allDue_5 rfl (lv_at hl 0 rfl) ?_
    refine va_get (D := D) (ci := cHo) (C := RX1) (T := TX1) (N := 11) (ws := [(L 0 0, hs_ct d L σ 0 0)]) (v := .int (σ 0 0 3)) hx hb hts (by decide +kernel) hown hK (hW.one hs_ix0) 0 rfl rfl 3 (by decide) (hts (.fieldLink RX1 46 "Waxrow$House" "personCount" "I") (by decide +kernel)) (fun _ h9 => h9) rfl dX1_allDue_6 ?_
    refine lv_icmp_ge (tgt := 30) hx hb dX1_allDue_9 (by decide) (fun c_9 => ?_) (fun c_9 => ?_)
    · refine lv_iload_n hx hb dX1_allDue_30 rfl (lv_at hl 1 rfl) ?_
      exact W.iret (v := sp_due σ n) hx hb hr (fun t ht hW9 => ⟨⟨(sp_due σ n), σ, rfl, ⟨by rw [hnN], rfl⟩, ⟨by rw [ht]; exact hW, va_K.moved hW9.alike hK⟩⟩, hS.F ht⟩) hS.2.2 dX1_allDue_31
    · exact absurd (by rw [hP, hnN]; exact nI_le (Nat.le_refl _) (by omega)) c_9
  | succ k ih =>
    intro n hn H locs hW hS ls hl
    have hnN : n < P := by omega
    refine lv_iload_n hx hb dX1_allDue_4 rfl (lv_at hl 2 rfl) ?_
    refine lv_aload_n hx hb dX1_allDue_5 rfl (lv_at hl 0 rfl) ?_
    refine va_get (D := D) (ci := cHo) (C := RX1) (T := TX1) (N := 11) (ws := [(L 0 0, hs_ct d L σ 0 0)]) (v := .int (σ 0 0 3)) hx hb hts (by decide +kernel) hown hK (hW.one hs_ix0) 0 rfl rfl 3 (by decide) (hts (.fieldLink RX1 46 "Waxrow$House" "personCount" "I") (by decide +kernel)) (fun _ h9 => h9) rfl dX1_allDue_6 ?_
    refine lv_icmp_ge (tgt := 30) hx hb dX1_allDue_9 (by decide) (fun c_9 => ?_) (fun c_9 => ?_)
    · exact absurd (by rw [hP] at c_9; exact c_9) (nI_ge hnN (by omega))
    · refine lv_iload_n hx hb dX1_allDue_12 rfl (lv_at hl 1 rfl) ?_
      refine lv_aload_n hx hb dX1_allDue_13 rfl (lv_at hl 0 rfl) ?_
      refine va_get (D := D) (ci := cHo) (C := RX1) (T := TX1) (N := 11) (ws := [(L 0 0, hs_ct d L σ 0 0)]) (v := .ref (L 1 0)) hx hb hts (by decide +kernel) hown hK (hW.one hs_ix0) 0 rfl rfl 0 (by decide) (hts (.fieldLink RX1 11 "Waxrow$House" "persons" "[LWaxrow$Person;") (by decide +kernel)) (fun _ h9 => h9) rfl dX1_allDue_14 ?_
      refine lv_iload_n hx hb dX1_allDue_17 rfl (lv_at hl 2 rfl) ?_
      refine hs_aald (n := 10) (g := fun j => L 4 j) hx hb hK hW 1 1 hs_ix1 rfl rfl (vp_in_nI (show n < 10 by omega) (by decide)) dX1_allDue_18 ?_
      rw [nI_clamp (show n < 2 ^ 31 by omega)]
      refine va_get (D := D) (ci := cPe) (C := RX2) (T := TX2) (N := 8) (ws := [(L 4 n, hs_ct d L σ 4 n)]) (v := .int (σ 4 n 6)) hx hb hts (by decide +kernel) hown hK (hW.one (hs_ix4 (show n < 10 by omega))) 0 rfl rfl 6 (by decide) (hts (.fieldLink RX1 129 "Waxrow$Person" "due" "I") (by decide +kernel)) (fun _ h9 => h9) rfl dX1_allDue_19 ?_
      refine lv_iadd hx hb dX1_allDue_22 ?_
      refine lv_istore_n (lv' := [(1, .int ((sp_due σ n) + (σ 4 n 6))), (0, .ref (L 0 0)), (2, .int (nI n))]) hx hb dX1_allDue_23 rfl hl (by decide) rfl (fun ls hl => ?_)
      refine lv_iinc (v := nI (n + 1)) (lv' := [(2, .int (nI (n + 1))), (1, .int ((sp_due σ n) + (σ 4 n 6))), (0, .ref (L 0 0))]) hx hb dX1_allDue_24 hl (k := 2) rfl (nI_succ _).symm (by decide) rfl (fun ls hl => ?_)
      refine lv_goto (tgt := 4) hx hb dX1_allDue_27 (by decide) ?_
      have e_1 : (sp_due σ n) + (σ 4 n 6) = sp_due σ (n + 1) := by first | (simp only [sp_due, eq_self, ↓reduceIte]; done) | (simp [sp_due]; done)
      rw [e_1] at hl
      exact ih (n + 1) (by omega) _ _ hW hS ls (lv_sub hl [2, 1, 0] rfl)
set_option maxHeartbeats 4000000 in
set_option maxRecDepth 100000 in
/-- allDue -/
theorem kX1_allDue (l : Launch) (D : va_G) (d : hs_Dm) (L : hs_Lo) (σ : hs_St) (A : Nat → Prop)  (P : Nat) (hP : σ 0 0 3 = nI P) (hP10 : P ≤ 10) : hs_Mi l yX1_allDue wsX1_allDue ({ frames := 0, cells := 0, slots := 0, locals := 0 }) D d L σ A [.ref (L 0 0)] (fun r τ => sp_due σ P = r ∧ σ = τ) := by
  refine Met.ofW (cc := cX1_allDue) (maxL := 3) (ret := (some .int)) (by decide) rfl ?_
  intro p e s m args below meth c s₁ B hml hv
  obtain ⟨rfl, ⟨hW, hK⟩, hE⟩ := hv
  have hx := B.exec
  have hb := B.bytes
  have hr := B.returns
  have hts := atoms_spec (ws := wsX1_allDue) B.pre
  have hown : s.vm.findClass RX1 = some m.cls := findClass_of_methodNamed B.named
  have hlocks := B.notSynchronized
  have hS : va_S A s.heap s.heap [] := va_S.rf
  have hW : hs_W D d L σ A s.heap := hW
  have hl := lv_entry ([.ref (L 0 0)]) (n := 3) (Nat.le_of_ble_eq_true rfl)
  rw [lg_entry_eq]
  generalize (lg_sl ([.ref (L 0 0)]) ++ List.replicate (3 - (lg_sl ([.ref (L 0 0)])).length) Slot.unset).toArray = ls at hl ⊢
  have hl : lv_has ls 3 [(0, .ref (L 0 0))] := hl
  refine lv_iconst (v := 0) hx hb dX1_allDue_0 (by decide) ?_
  refine lv_istore_n (lv' := [(1, .int 0), (0, .ref (L 0 0))]) hx hb dX1_allDue_1 rfl hl (by decide) rfl (fun ls hl => ?_)
  refine lv_iconst (v := 0) hx hb dX1_allDue_2 (by decide) ?_
  refine lv_istore_n (lv' := [(2, .int 0), (1, .int 0), (0, .ref (L 0 0))]) hx hb dX1_allDue_3 rfl hl (by decide) rfl (fun ls hl => ?_)
  exact lkX1_allDue l D d L σ A  P hP hP10 hx hb hr hts hown hlocks hml hK hE  P 0 (by omega) _ _ hW hS ls (lv_sub hl [2, 1, 0] rfl)
set_option maxHeartbeats 4000000 in
set_option maxRecDepth 100000 in
/-- allHands: the loop at 4 -/
theorem lkX1_allHands (l : Launch) (D : va_G) (d : hs_Dm) (L : hs_Lo) (σ : hs_St) (A : Nat → Prop) {p : Program} {e : Env} {s : State} {m : MethodId} {args : Array Value} {below : List Frame} {meth : Method} {c : Code}  (F : Nat) (hF : σ 0 0 4 = nI F) (hF8 : F ≤ 8)  (hx : p.tables.exec = Jvm.exec) (hb : c.code = cX1_allHands) (hr : meth.sig.returnType = (some .int)) (hts : ∀ w ∈ wsX1_allHands, w.before args s = true) (hown : s.vm.findClass RX1 = some m.cls) (hlocks : meth.locks = false) (hml : c.maxLocals = 3) (hK : va_K D vwCl (hs_ty d) s) (hE : hs_E d.2.2.2.2 A s)  : ∀ (k n : Nat), n + k = F → ∀ (H : Heap) (locs : List Loc), hs_W D d L σ A H → va_S A s.heap H locs → ∀ ls : Array Slot, lv_has ls 3 [(0, .ref (L 0 0)), (1, .int (sp_hands σ n)), (2, .int (nI n))] → W p l e ({ frames := 0, cells := 0, slots := 0, locals := 0 } : Room) s m args below meth c H locs 0 0 (MQ below (va_Qi (fun r τ => sp_hands σ F = r ∧ σ = τ) (fun τ t => hs_B D d L τ A t) A) args s 0 0 A) (F0 m 4 ls []) := by
  intro k
  induction k with
  | zero =>
    intro n hn H locs hW hS ls hl
    have hnN : n = F := by omega
    refine lv_iload_n hx hb dX1_allHands_4 rfl (lv_at hl 2 rfl) ?_
    refine lv_aload_n hx hb dX1_allHands_5 rfl (lv_at hl 0 rfl) ?_
    refine va_get (D := D) (ci := cHo) (C := RX1) (T := TX1) (N := 11) (ws := [(L 0 0, hs_ct d L σ 0 0)]) (v := .int (σ 0 0 4)) hx hb hts (by decide +kernel) hown hK (hW.one hs_ix0) 0 rfl rfl 4 (by decide) (hts (.fieldLink RX1 49 "Waxrow$House" "figureCount" "I") (by decide +kernel)) (fun _ h9 => h9) rfl dX1_allHands_6 ?_
    refine lv_icmp_ge (tgt := 30) hx hb dX1_allHands_9 (by decide) (fun c_9 => ?_) (fun c_9 => ?_)
    · refine lv_iload_n hx hb dX1_allHands_30 rfl (lv_at hl 1 rfl) ?_
      exact W.iret (v := sp_hands σ n) hx hb hr (fun t ht hW9 => ⟨⟨(sp_hands σ n), σ, rfl, ⟨by rw [hnN], rfl⟩, ⟨by rw [ht]; exact hW, va_K.moved hW9.alike hK⟩⟩, hS.F ht⟩) hS.2.2 dX1_allHands_31
    · exact absurd (by rw [hF, hnN]; exact nI_le (Nat.le_refl _) (by omega)) c_9
  | succ k ih =>
    intro n hn H locs hW hS ls hl
    have hnN : n < F := by omega
    refine lv_iload_n hx hb dX1_allHands_4 rfl (lv_at hl 2 rfl) ?_
    refine lv_aload_n hx hb dX1_allHands_5 rfl (lv_at hl 0 rfl) ?_
    refine va_get (D := D) (ci := cHo) (C := RX1) (T := TX1) (N := 11) (ws := [(L 0 0, hs_ct d L σ 0 0)]) (v := .int (σ 0 0 4)) hx hb hts (by decide +kernel) hown hK (hW.one hs_ix0) 0 rfl rfl 4 (by decide) (hts (.fieldLink RX1 49 "Waxrow$House" "figureCount" "I") (by decide +kernel)) (fun _ h9 => h9) rfl dX1_allHands_6 ?_
    refine lv_icmp_ge (tgt := 30) hx hb dX1_allHands_9 (by decide) (fun c_9 => ?_) (fun c_9 => ?_)
    · exact absurd (by rw [hF] at c_9; exact c_9) (nI_ge hnN (by omega))
    · refine lv_iload_n hx hb dX1_allHands_12 rfl (lv_at hl 1 rfl) ?_
      refine lv_aload_n hx hb dX1_allHands_13 rfl (lv_at hl 0 rfl) ?_
      refine va_get (D := D) (ci := cHo) (C := RX1) (T := TX1) (N := 11) (ws := [(L 0 0, hs_ct d L σ 0 0)]) (v := .ref (L 2 0)) hx hb hts (by decide +kernel) hown hK (hW.one hs_ix0) 0 rfl rfl 1 (by decide) (hts (.fieldLink RX1 22 "Waxrow$House" "figures" "[LWaxrow$Figure;") (by decide +kernel)) (fun _ h9 => h9) rfl dX1_allHands_14 ?_
      refine lv_iload_n hx hb dX1_allHands_17 rfl (lv_at hl 2 rfl) ?_
      refine hs_aald (n := 8) (g := fun j => L 9 j) hx hb hK hW 2 2 hs_ix2 rfl rfl (vp_in_nI (show n < 8 by omega) (by decide)) dX1_allHands_18 ?_
      rw [nI_clamp (show n < 2 ^ 31 by omega)]
      refine va_get (D := D) (ci := cFi) (C := RX0) (T := TX0) (N := 11) (ws := [(L 9 n, hs_ct d L σ 9 n)]) (v := .int (σ 9 n 4)) hx hb hts (by decide +kernel) hown hK (hW.one (hs_ix9 (show n < 8 by omega))) 0 rfl rfl 4 (by decide) (hts (.fieldLink RX1 132 "Waxrow$Figure" "hands" "I") (by decide +kernel)) (fun _ h9 => h9) rfl dX1_allHands_19 ?_
      refine lv_iadd hx hb dX1_allHands_22 ?_
      refine lv_istore_n (lv' := [(1, .int ((sp_hands σ n) + (σ 9 n 4))), (0, .ref (L 0 0)), (2, .int (nI n))]) hx hb dX1_allHands_23 rfl hl (by decide) rfl (fun ls hl => ?_)
      refine lv_iinc (v := nI (n + 1)) (lv' := [(2, .int (nI (n + 1))), (1, .int ((sp_hands σ n) + (σ 9 n 4))), (0, .ref (L 0 0))]) hx hb dX1_allHands_24 hl (k := 2) rfl (nI_succ _).symm (by decide) rfl (fun ls hl => ?_)
      refine lv_goto (tgt := 4) hx hb dX1_allHands_27 (by decide) ?_
      have e_1 : (sp_hands σ n) + (σ 9 n 4) = sp_hands σ (n + 1) := by first | (simp only [sp_hands, eq_self, ↓reduceIte]; done) | (simp [sp_hands]; done)
      rw [e_1] at hl
      exact ih (n + 1) (by omega) _ _ hW hS ls (lv_sub hl [2, 1, 0] rfl)
set_option maxHeartbeats 4000000 in
set_option maxRecDepth 100000 in
/-- allHands -/
theorem kX1_allHands (l : Launch) (D : va_G) (d : hs_Dm) (L : hs_Lo) (σ : hs_St) (A : Nat → Prop)  (F : Nat) (hF : σ 0 0 4 = nI F) (hF8 : F ≤ 8) : hs_Mi l yX1_allHands wsX1_allHands ({ frames := 0, cells := 0, slots := 0, locals := 0 }) D d L σ A [.ref (L 0 0)] (fun r τ => sp_hands σ F = r ∧ σ = τ) := by
  refine Met.ofW (cc := cX1_allHands) (maxL := 3) (ret := (some .int)) (by decide) rfl ?_
  intro p e s m args below meth c s₁ B hml hv
  obtain ⟨rfl, ⟨hW, hK⟩, hE⟩ := hv
  have hx := B.exec
  have hb := B.bytes
  have hr := B.returns
  have hts := atoms_spec (ws := wsX1_allHands) B.pre
  have hown : s.vm.findClass RX1 = some m.cls := findClass_of_methodNamed B.named
  have hlocks := B.notSynchronized
  have hS : va_S A s.heap s.heap [] := va_S.rf
  have hW : hs_W D d L σ A s.heap := hW
  have hl := lv_entry ([.ref (L 0 0)]) (n := 3) (Nat.le_of_ble_eq_true rfl)
  rw [lg_entry_eq]
  generalize (lg_sl ([.ref (L 0 0)]) ++ List.replicate (3 - (lg_sl ([.ref (L 0 0)])).length) Slot.unset).toArray = ls at hl ⊢
  have hl : lv_has ls 3 [(0, .ref (L 0 0))] := hl
  refine lv_iconst (v := 0) hx hb dX1_allHands_0 (by decide) ?_
  refine lv_istore_n (lv' := [(1, .int 0), (0, .ref (L 0 0))]) hx hb dX1_allHands_1 rfl hl (by decide) rfl (fun ls hl => ?_)
  refine lv_iconst (v := 0) hx hb dX1_allHands_2 (by decide) ?_
  refine lv_istore_n (lv' := [(2, .int 0), (1, .int 0), (0, .ref (L 0 0))]) hx hb dX1_allHands_3 rfl hl (by decide) rfl (fun ls hl => ?_)
  exact lkX1_allHands l D d L σ A  F hF hF8 hx hb hr hts hown hlocks hml hK hE  F 0 (by omega) _ _ hW hS ls (lv_sub hl [2, 1, 0] rfl)
set_option maxHeartbeats 4000000 in
set_option maxRecDepth 100000 in
/-- shownOf: the loop at 2 -/
theorem lkX1_shownOf (l : Launch) (D : va_G) (d : hs_Dm) (L : hs_Lo) (σ : hs_St) (A : Nat → Prop) {p : Program} {e : Env} {s : State} {m : MethodId} {args : Array Value} {below : List Frame} {meth : Method} {c : Code} (q : Nat) (hq : q < 10) (F : Nat) (hF : σ 0 0 4 = nI F) (hF8 : F ≤ 8) (hh : hs_hd σ)  (hx : p.tables.exec = Jvm.exec) (hb : c.code = cX1_shownOf) (hr : meth.sig.returnType = (some .int)) (hts : ∀ w ∈ wsX1_shownOf, w.before args s = true) (hown : s.vm.findClass RX1 = some m.cls) (hlocks : meth.locks = false) (hml : c.maxLocals = 3) (hK : va_K D vwCl (hs_ty d) s) (hE : hs_E d.2.2.2.2 A s)  : ∀ (k n : Nat), n + k = F → ∀ (H : Heap) (locs : List Loc), hs_W D d L σ A H → va_S A s.heap H locs → ∀ ls : Array Slot, lv_has ls 3 [(0, .ref (L 0 0)), (1, .ref (L 4 q)), (2, .int (nI n))] → W p l e ({ frames := 1, cells := 0, slots := 0, locals := 20 } : Room) s m args below meth c H locs 0 0 (MQ below (va_Qi (fun r τ => sp_shownFrom σ q k n = r ∧ σ = τ) (fun τ t => hs_B D d L τ A t) A) args s 0 0 A) (F0 m 2 ls []) := by
  intro k
  induction k with
  | zero =>
    intro n hn H locs hW hS ls hl
    have hnN : n = F := by omega
    refine lv_iload_n hx hb dX1_shownOf_2 rfl (lv_at hl 2 rfl) ?_
    refine lv_aload_n hx hb dX1_shownOf_3 rfl (lv_at hl 0 rfl) ?_
    refine va_get (D := D) (ci := cHo) (C := RX1) (T := TX1) (N := 11) (ws := [(L 0 0, hs_ct d L σ 0 0)]) (v := .int (σ 0 0 4)) hx hb hts (by decide +kernel) hown hK (hW.one hs_ix0) 0 rfl rfl 4 (by decide) (hts (.fieldLink RX1 49 "Waxrow$House" "figureCount" "I") (by decide +kernel)) (fun _ h9 => h9) rfl dX1_shownOf_4 ?_
    refine lv_icmp_ge (tgt := 43) hx hb dX1_shownOf_7 (by decide) (fun c_7 => ?_) (fun c_7 => ?_)
    · refine lv_iconst (v := (-1)) hx hb dX1_shownOf_43 (by decide) ?_
      exact W.iret (v := (-1)) hx hb hr (fun t ht hW9 => ⟨⟨(-1), σ, rfl, ⟨by first | rfl | first | (simp only [sp_shownFrom, eq_self, ↓reduceIte]; done) | (simp [sp_shownFrom]; done), rfl⟩, ⟨by rw [ht]; exact hW, va_K.moved hW9.alike hK⟩⟩, hS.F ht⟩) hS.2.2 dX1_shownOf_44
    · exact absurd (by rw [hF, hnN]; exact nI_le (Nat.le_refl _) (by omega)) c_7
  | succ k ih =>
    intro n hn H locs hW hS ls hl
    have hnN : n < F := by omega
    refine lv_iload_n hx hb dX1_shownOf_2 rfl (lv_at hl 2 rfl) ?_
    refine lv_aload_n hx hb dX1_shownOf_3 rfl (lv_at hl 0 rfl) ?_
    refine va_get (D := D) (ci := cHo) (C := RX1) (T := TX1) (N := 11) (ws := [(L 0 0, hs_ct d L σ 0 0)]) (v := .int (σ 0 0 4)) hx hb hts (by decide +kernel) hown hK (hW.one hs_ix0) 0 rfl rfl 4 (by decide) (hts (.fieldLink RX1 49 "Waxrow$House" "figureCount" "I") (by decide +kernel)) (fun _ h9 => h9) rfl dX1_shownOf_4 ?_
    refine lv_icmp_ge (tgt := 43) hx hb dX1_shownOf_7 (by decide) (fun c_7 => ?_) (fun c_7 => ?_)
    · exact absurd (by rw [hF] at c_7; exact c_7) (nI_ge hnN (by omega))
    · refine lv_aload_n hx hb dX1_shownOf_10 rfl (lv_at hl 0 rfl) ?_
      refine va_get (D := D) (ci := cHo) (C := RX1) (T := TX1) (N := 11) (ws := [(L 0 0, hs_ct d L σ 0 0)]) (v := .ref (L 2 0)) hx hb hts (by decide +kernel) hown hK (hW.one hs_ix0) 0 rfl rfl 1 (by decide) (hts (.fieldLink RX1 22 "Waxrow$House" "figures" "[LWaxrow$Figure;") (by decide +kernel)) (fun _ h9 => h9) rfl dX1_shownOf_11 ?_
      refine lv_iload_n hx hb dX1_shownOf_14 rfl (lv_at hl 2 rfl) ?_
      refine hs_aald (n := 8) (g := fun j => L 9 j) hx hb hK hW 2 2 hs_ix2 rfl rfl (vp_in_nI (show n < 8 by omega) (by decide)) dX1_shownOf_15 ?_
      rw [nI_clamp (show n < 2 ^ 31 by omega)]
      refine va_get (D := D) (ci := cFi) (C := RX0) (T := TX0) (N := 11) (ws := [(L 9 n, hs_ct d L σ 9 n)]) (v := .ref (L 4 ((σ 9 n 0).toNatClampNeg))) hx hb hts (by decide +kernel) hown hK (hW.one (hs_ix9 (show n < 8 by omega))) 0 rfl rfl 0 (by decide) (hts (.fieldLink RX1 64 "Waxrow$Figure" "head" "LWaxrow$Person;") (by decide +kernel)) (fun _ h9 => h9) rfl dX1_shownOf_16 ?_
      refine lv_aload_n hx hb dX1_shownOf_19 rfl (lv_at hl 1 rfl) ?_
      refine lv_acmp_ne (rx := some (L 4 ((σ 9 n 0).toNatClampNeg))) (ry := some (L 4 q)) (tgt := 37) hx hb dX1_shownOf_20 (by decide) (fun c_20 => ?_) (fun c_20 => ?_)
      · have c_20 : ¬ ((σ 9 n 0).toNatClampNeg) = q := fun q => c_20 (by rw [q])
        refine lv_iinc (v := nI (n + 1)) (lv' := [(2, .int (nI (n + 1))), (0, .ref (L 0 0)), (1, .ref (L 4 q))]) hx hb dX1_shownOf_37 hl (k := 2) rfl (nI_succ _).symm (by decide) rfl (fun ls hl => ?_)
        refine lv_goto (tgt := 2) hx hb dX1_shownOf_40 (by decide) ?_
        have e_p : sp_shownFrom σ q (k + 1) n = sp_shownFrom σ q k (n + 1) := by first | (simp only [sp_shownFrom, c_20, eq_self, ↓reduceIte]; done) | (simp [sp_shownFrom, c_20]; done)
        rw [e_p]
        exact ih (n + 1) (by omega) _ _ hW hS ls (lv_sub hl [1, 2, 0] rfl)
      · have c_20 : ((σ 9 n 0).toNatClampNeg) = q := (hW.2.2 _ _ _ _ (hs_ix4 ((hh n (by omega)).1)) (hs_ix4 hq) (Option.some.inj c_20)).2
        refine lv_aload_n hx hb dX1_shownOf_23 rfl (lv_at hl 0 rfl) ?_
        refine va_get (D := D) (ci := cHo) (C := RX1) (T := TX1) (N := 11) (ws := [(L 0 0, hs_ct d L σ 0 0)]) (v := .ref (L 2 0)) hx hb hts (by decide +kernel) hown hK (hW.one hs_ix0) 0 rfl rfl 1 (by decide) (hts (.fieldLink RX1 22 "Waxrow$House" "figures" "[LWaxrow$Figure;") (by decide +kernel)) (fun _ h9 => h9) rfl dX1_shownOf_24 ?_
        refine lv_iload_n hx hb dX1_shownOf_27 rfl (lv_at hl 2 rfl) ?_
        refine hs_aald (n := 8) (g := fun j => L 9 j) hx hb hK hW 2 2 hs_ix2 rfl rfl (vp_in_nI (show n < 8 by omega) (by decide)) dX1_shownOf_28 ?_
        rw [nI_clamp (show n < 2 ^ 31 by omega)]
        refine hs_calli (As := []) ⟨hx, hb, hml, hown, hts⟩ (kX0_isShown l D d L σ A n (show n < 8 by omega)) (cwV 0 hts gX1_shownOf_X0_isShown rfl rfl rfl (by decide +kernel) ⟨Nat.le_of_ble_eq_true rfl, Nat.le_of_ble_eq_true rfl⟩) hK hE hW hS (hs_ix9 (show n < 8 by omega)) (ci := cFi) (r := (RX0, TX0, 11)) rfl rfl rfl rfl hl.1 (Nat.le_of_ble_eq_true rfl) dX1_shownOf_29 ⟨Nat.zero_le _, Nat.zero_le _⟩ rfl (fun r_ τ_ H locs hp hW hS => ?_)
        obtain ⟨rfl, rfl⟩ := hp
        refine lv_if_eq (tgt := 37) hx hb dX1_shownOf_32 (by decide) (fun c_32 => ?_) (fun c_32 => ?_)
        · refine lv_iinc (v := nI (n + 1)) (lv' := [(2, .int (nI (n + 1))), (0, .ref (L 0 0)), (1, .ref (L 4 q))]) hx hb dX1_shownOf_37 hl (k := 2) rfl (nI_succ _).symm (by decide) rfl (fun ls hl => ?_)
          refine lv_goto (tgt := 2) hx hb dX1_shownOf_40 (by decide) ?_
          have e_p : sp_shownFrom σ q (k + 1) n = sp_shownFrom σ q k (n + 1) := by first | (simp only [sp_shownFrom, c_20, c_32, eq_self, ↓reduceIte]; done) | (simp [sp_shownFrom, c_20, c_32]; done)
          rw [e_p]
          exact ih (n + 1) (by omega) _ _ hW hS ls (lv_sub hl [1, 2, 0] rfl)
        · refine lv_iload_n hx hb dX1_shownOf_35 rfl (lv_at hl 2 rfl) ?_
          exact W.iret (v := nI n) hx hb hr (fun t ht hW9 => ⟨⟨(nI n), σ, rfl, ⟨by first | rfl | first | (simp only [sp_shownFrom, c_20, c_32, eq_self, ↓reduceIte]; done) | (simp [sp_shownFrom, c_20, c_32]; done), rfl⟩, ⟨by rw [ht]; exact hW, va_K.moved hW9.alike hK⟩⟩, hS.F ht⟩) hS.2.2 dX1_shownOf_36
set_option maxHeartbeats 4000000 in
set_option maxRecDepth 100000 in
/-- shownOf -/
theorem kX1_shownOf (l : Launch) (D : va_G) (d : hs_Dm) (L : hs_Lo) (σ : hs_St) (A : Nat → Prop) (q : Nat) (hq : q < 10) (F : Nat) (hF : σ 0 0 4 = nI F) (hF8 : F ≤ 8) (hh : hs_hd σ) : hs_Mi l yX1_shownOf wsX1_shownOf ({ frames := 1, cells := 0, slots := 0, locals := 20 }) D d L σ A [.ref (L 0 0), .ref (L 4 q)] (fun r τ => sp_shownFrom σ q F 0 = r ∧ σ = τ) := by
  refine Met.ofW (cc := cX1_shownOf) (maxL := 3) (ret := (some .int)) (by decide) rfl ?_
  intro p e s m args below meth c s₁ B hml hv
  obtain ⟨rfl, ⟨hW, hK⟩, hE⟩ := hv
  have hx := B.exec
  have hb := B.bytes
  have hr := B.returns
  have hts := atoms_spec (ws := wsX1_shownOf) B.pre
  have hown : s.vm.findClass RX1 = some m.cls := findClass_of_methodNamed B.named
  have hlocks := B.notSynchronized
  have hS : va_S A s.heap s.heap [] := va_S.rf
  have hW : hs_W D d L σ A s.heap := hW
  have hl := lv_entry ([.ref (L 0 0), .ref (L 4 q)]) (n := 3) (Nat.le_of_ble_eq_true rfl)
  rw [lg_entry_eq]
  generalize (lg_sl ([.ref (L 0 0), .ref (L 4 q)]) ++ List.replicate (3 - (lg_sl ([.ref (L 0 0), .ref (L 4 q)])).length) Slot.unset).toArray = ls at hl ⊢
  have hl : lv_has ls 3 [(0, .ref (L 0 0)), (1, .ref (L 4 q))] := hl
  refine lv_iconst (v := 0) hx hb dX1_shownOf_0 (by decide) ?_
  refine lv_istore_n (lv' := [(2, .int 0), (0, .ref (L 0 0)), (1, .ref (L 4 q))]) hx hb dX1_shownOf_1 rfl hl (by decide) rfl (fun ls hl => ?_)
  exact lkX1_shownOf l D d L σ A q hq F hF hF8 hh hx hb hr hts hown hlocks hml hK hE F 0 (by omega) _ _ hW hS ls (lv_sub hl [1, 2, 0] rfl)
set_option maxHeartbeats 4000000 in
set_option maxRecDepth 100000 in
/-- hasFigureOf: the loop at 2 -/
theorem lkX1_hasFigureOf (l : Launch) (D : va_G) (d : hs_Dm) (L : hs_Lo) (σ : hs_St) (A : Nat → Prop) {p : Program} {e : Env} {s : State} {m : MethodId} {args : Array Value} {below : List Frame} {meth : Method} {c : Code} (q : Nat) (hq : q < 10) (F : Nat) (hF : σ 0 0 4 = nI F) (hF8 : F ≤ 8) (hh : hs_hd σ)  (hx : p.tables.exec = Jvm.exec) (hb : c.code = cX1_hasFigureOf) (hr : meth.sig.returnType = (some .boolean)) (hts : ∀ w ∈ wsX1_hasFigureOf, w.before args s = true) (hown : s.vm.findClass RX1 = some m.cls) (hlocks : meth.locks = false) (hml : c.maxLocals = 3) (hK : va_K D vwCl (hs_ty d) s) (hE : hs_E d.2.2.2.2 A s)  : ∀ (k n : Nat), n + k = F → ∀ (H : Heap) (locs : List Loc), hs_W D d L σ A H → va_S A s.heap H locs → ∀ ls : Array Slot, lv_has ls 3 [(0, .ref (L 0 0)), (1, .ref (L 4 q)), (2, .int (nI n))] → W p l e ({ frames := 0, cells := 0, slots := 0, locals := 0 } : Room) s m args below meth c H locs 0 0 (MQ below (va_Qi (fun r τ => sp_hasFrom σ q k n = r ∧ σ = τ) (fun τ t => hs_B D d L τ A t) A) args s 0 0 A) (F0 m 2 ls []) := by
  intro k
  induction k with
  | zero =>
    intro n hn H locs hW hS ls hl
    have hnN : n = F := by omega
    refine lv_iload_n hx hb dX1_hasFigureOf_2 rfl (lv_at hl 2 rfl) ?_
    refine lv_aload_n hx hb dX1_hasFigureOf_3 rfl (lv_at hl 0 rfl) ?_
    refine va_get (D := D) (ci := cHo) (C := RX1) (T := TX1) (N := 11) (ws := [(L 0 0, hs_ct d L σ 0 0)]) (v := .int (σ 0 0 4)) hx hb hts (by decide +kernel) hown hK (hW.one hs_ix0) 0 rfl rfl 4 (by decide) (hts (.fieldLink RX1 49 "Waxrow$House" "figureCount" "I") (by decide +kernel)) (fun _ h9 => h9) rfl dX1_hasFigureOf_4 ?_
    refine lv_icmp_ge (tgt := 45) hx hb dX1_hasFigureOf_7 (by decide) (fun c_7 => ?_) (fun c_7 => ?_)
    · refine lv_iconst (v := 0) hx hb dX1_hasFigureOf_45 (by decide) ?_
      exact W.zret (v := 0) (ty := .boolean) hx hb hr rfl (fun t ht hW9 => ⟨⟨0, σ, rfl, ⟨by first | rfl | first | (simp only [sp_hasFrom, eq_self, ↓reduceIte]; done) | (simp [sp_hasFrom]; done), rfl⟩, ⟨by rw [ht]; exact hW, va_K.moved hW9.alike hK⟩⟩, hS.F ht⟩) hS.2.2 dX1_hasFigureOf_46
    · exact absurd (by rw [hF, hnN]; exact nI_le (Nat.le_refl _) (by omega)) c_7
  | succ k ih =>
    intro n hn H locs hW hS ls hl
    have hnN : n < F := by omega
    refine lv_iload_n hx hb dX1_hasFigureOf_2 rfl (lv_at hl 2 rfl) ?_
    refine lv_aload_n hx hb dX1_hasFigureOf_3 rfl (lv_at hl 0 rfl) ?_
    refine va_get (D := D) (ci := cHo) (C := RX1) (T := TX1) (N := 11) (ws := [(L 0 0, hs_ct d L σ 0 0)]) (v := .int (σ 0 0 4)) hx hb hts (by decide +kernel) hown hK (hW.one hs_ix0) 0 rfl rfl 4 (by decide) (hts (.fieldLink RX1 49 "Waxrow$House" "figureCount" "I") (by decide +kernel)) (fun _ h9 => h9) rfl dX1_hasFigureOf_4 ?_
    refine lv_icmp_ge (tgt := 45) hx hb dX1_hasFigureOf_7 (by decide) (fun c_7 => ?_) (fun c_7 => ?_)
    · exact absurd (by rw [hF] at c_7; exact c_7) (nI_ge hnN (by omega))
    · refine lv_aload_n hx hb dX1_hasFigureOf_10 rfl (lv_at hl 0 rfl) ?_
      refine va_get (D := D) (ci := cHo) (C := RX1) (T := TX1) (N := 11) (ws := [(L 0 0, hs_ct d L σ 0 0)]) (v := .ref (L 2 0)) hx hb hts (by decide +kernel) hown hK (hW.one hs_ix0) 0 rfl rfl 1 (by decide) (hts (.fieldLink RX1 22 "Waxrow$House" "figures" "[LWaxrow$Figure;") (by decide +kernel)) (fun _ h9 => h9) rfl dX1_hasFigureOf_11 ?_
      refine lv_iload_n hx hb dX1_hasFigureOf_14 rfl (lv_at hl 2 rfl) ?_
      refine hs_aald (n := 8) (g := fun j => L 9 j) hx hb hK hW 2 2 hs_ix2 rfl rfl (vp_in_nI (show n < 8 by omega) (by decide)) dX1_hasFigureOf_15 ?_
      rw [nI_clamp (show n < 2 ^ 31 by omega)]
      refine va_get (D := D) (ci := cFi) (C := RX0) (T := TX0) (N := 11) (ws := [(L 9 n, hs_ct d L σ 9 n)]) (v := .ref (L 4 ((σ 9 n 0).toNatClampNeg))) hx hb hts (by decide +kernel) hown hK (hW.one (hs_ix9 (show n < 8 by omega))) 0 rfl rfl 0 (by decide) (hts (.fieldLink RX1 64 "Waxrow$Figure" "head" "LWaxrow$Person;") (by decide +kernel)) (fun _ h9 => h9) rfl dX1_hasFigureOf_16 ?_
      refine lv_aload_n hx hb dX1_hasFigureOf_19 rfl (lv_at hl 1 rfl) ?_
      refine lv_acmp_ne (rx := some (L 4 ((σ 9 n 0).toNatClampNeg))) (ry := some (L 4 q)) (tgt := 39) hx hb dX1_hasFigureOf_20 (by decide) (fun c_20 => ?_) (fun c_20 => ?_)
      · have c_20 : ¬ ((σ 9 n 0).toNatClampNeg) = q := fun q => c_20 (by rw [q])
        refine lv_iinc (v := nI (n + 1)) (lv' := [(2, .int (nI (n + 1))), (0, .ref (L 0 0)), (1, .ref (L 4 q))]) hx hb dX1_hasFigureOf_39 hl (k := 2) rfl (nI_succ _).symm (by decide) rfl (fun ls hl => ?_)
        refine lv_goto (tgt := 2) hx hb dX1_hasFigureOf_42 (by decide) ?_
        have e_p : sp_hasFrom σ q (k + 1) n = sp_hasFrom σ q k (n + 1) := by first | (simp only [sp_hasFrom, c_20, eq_self, ↓reduceIte]; done) | (simp [sp_hasFrom, c_20]; done)
        rw [e_p]
        exact ih (n + 1) (by omega) _ _ hW hS ls (lv_sub hl [1, 2, 0] rfl)
      · have c_20 : ((σ 9 n 0).toNatClampNeg) = q := (hW.2.2 _ _ _ _ (hs_ix4 ((hh n (by omega)).1)) (hs_ix4 hq) (Option.some.inj c_20)).2
        refine lv_aload_n hx hb dX1_hasFigureOf_23 rfl (lv_at hl 0 rfl) ?_
        refine va_get (D := D) (ci := cHo) (C := RX1) (T := TX1) (N := 11) (ws := [(L 0 0, hs_ct d L σ 0 0)]) (v := .ref (L 2 0)) hx hb hts (by decide +kernel) hown hK (hW.one hs_ix0) 0 rfl rfl 1 (by decide) (hts (.fieldLink RX1 22 "Waxrow$House" "figures" "[LWaxrow$Figure;") (by decide +kernel)) (fun _ h9 => h9) rfl dX1_hasFigureOf_24 ?_
        refine lv_iload_n hx hb dX1_hasFigureOf_27 rfl (lv_at hl 2 rfl) ?_
        refine hs_aald (n := 8) (g := fun j => L 9 j) hx hb hK hW 2 2 hs_ix2 rfl rfl (vp_in_nI (show n < 8 by omega) (by decide)) dX1_hasFigureOf_28 ?_
        rw [nI_clamp (show n < 2 ^ 31 by omega)]
        refine va_get (D := D) (ci := cFi) (C := RX0) (T := TX0) (N := 11) (ws := [(L 9 n, hs_ct d L σ 9 n)]) (v := .int (σ 9 n 7)) hx hb hts (by decide +kernel) hown hK (hW.one (hs_ix9 (show n < 8 by omega))) 0 rfl rfl 7 (by decide) (hts (.fieldLink RX1 107 "Waxrow$Figure" "place" "I") (by decide +kernel)) (fun _ h9 => h9) rfl dX1_hasFigureOf_29 ?_
        refine lv_bipush (v := 7) hx hb dX1_hasFigureOf_32 (by decide) ?_
        refine lv_icmp_eq (tgt := 39) hx hb dX1_hasFigureOf_34 (by decide) (fun c_34 => ?_) (fun c_34 => ?_)
        · refine lv_iinc (v := nI (n + 1)) (lv' := [(2, .int (nI (n + 1))), (0, .ref (L 0 0)), (1, .ref (L 4 q))]) hx hb dX1_hasFigureOf_39 hl (k := 2) rfl (nI_succ _).symm (by decide) rfl (fun ls hl => ?_)
          refine lv_goto (tgt := 2) hx hb dX1_hasFigureOf_42 (by decide) ?_
          have e_p : sp_hasFrom σ q (k + 1) n = sp_hasFrom σ q k (n + 1) := by first | (simp only [sp_hasFrom, c_20, c_34, eq_self, ↓reduceIte]; done) | (simp [sp_hasFrom, c_20, c_34]; done)
          rw [e_p]
          exact ih (n + 1) (by omega) _ _ hW hS ls (lv_sub hl [1, 2, 0] rfl)
        · refine lv_iconst (v := 1) hx hb dX1_hasFigureOf_37 (by decide) ?_
          exact W.zret (v := 1) (ty := .boolean) hx hb hr rfl (fun t ht hW9 => ⟨⟨1, σ, rfl, ⟨by first | rfl | first | (simp only [sp_hasFrom, c_20, c_34, eq_self, ↓reduceIte]; done) | (simp [sp_hasFrom, c_20, c_34]; done), rfl⟩, ⟨by rw [ht]; exact hW, va_K.moved hW9.alike hK⟩⟩, hS.F ht⟩) hS.2.2 dX1_hasFigureOf_38
set_option maxHeartbeats 4000000 in
set_option maxRecDepth 100000 in
/-- hasFigureOf -/
theorem kX1_hasFigureOf (l : Launch) (D : va_G) (d : hs_Dm) (L : hs_Lo) (σ : hs_St) (A : Nat → Prop) (q : Nat) (hq : q < 10) (F : Nat) (hF : σ 0 0 4 = nI F) (hF8 : F ≤ 8) (hh : hs_hd σ) : hs_Mi l yX1_hasFigureOf wsX1_hasFigureOf ({ frames := 0, cells := 0, slots := 0, locals := 0 }) D d L σ A [.ref (L 0 0), .ref (L 4 q)] (fun r τ => sp_hasFrom σ q F 0 = r ∧ σ = τ) := by
  refine Met.ofW (cc := cX1_hasFigureOf) (maxL := 3) (ret := (some .boolean)) (by decide) rfl ?_
  intro p e s m args below meth c s₁ B hml hv
  obtain ⟨rfl, ⟨hW, hK⟩, hE⟩ := hv
  have hx := B.exec
  have hb := B.bytes
  have hr := B.returns
  have hts := atoms_spec (ws := wsX1_hasFigureOf) B.pre
  have hown : s.vm.findClass RX1 = some m.cls := findClass_of_methodNamed B.named
  have hlocks := B.notSynchronized
  have hS : va_S A s.heap s.heap [] := va_S.rf
  have hW : hs_W D d L σ A s.heap := hW
  have hl := lv_entry ([.ref (L 0 0), .ref (L 4 q)]) (n := 3) (Nat.le_of_ble_eq_true rfl)
  rw [lg_entry_eq]
  generalize (lg_sl ([.ref (L 0 0), .ref (L 4 q)]) ++ List.replicate (3 - (lg_sl ([.ref (L 0 0), .ref (L 4 q)])).length) Slot.unset).toArray = ls at hl ⊢
  have hl : lv_has ls 3 [(0, .ref (L 0 0)), (1, .ref (L 4 q))] := hl
  refine lv_iconst (v := 0) hx hb dX1_hasFigureOf_0 (by decide) ?_
  refine lv_istore_n (lv' := [(2, .int 0), (0, .ref (L 0 0)), (1, .ref (L 4 q))]) hx hb dX1_hasFigureOf_1 rfl hl (by decide) rfl (fun ls hl => ?_)
  exact lkX1_hasFigureOf l D d L σ A q hq F hF hF8 hh hx hb hr hts hown hlocks hml hK hE F 0 (by omega) _ _ hW hS ls (lv_sub hl [1, 2, 0] rfl)
set_option maxHeartbeats 4000000 in
set_option maxRecDepth 100000 in
/-- takeAllOf: the loop at 4 -/
theorem lkX1_takeAllOf (l : Launch) (D : va_G) (d : hs_Dm) (L : hs_Lo) (σ : hs_St) (A : Nat → Prop) {p : Program} {e : Env} {s : State} {m : MethodId} {args : Array Value} {below : List Frame} {meth : Method} {c : Code} (q : Nat) (hq : q < 10) (F : Nat) (hF : σ 0 0 4 = nI F) (hF8 : F ≤ 8) (hh : hs_hd σ)  (hx : p.tables.exec = Jvm.exec) (hb : c.code = cX1_takeAllOf) (hr : meth.sig.returnType = (some .int)) (hts : ∀ w ∈ wsX1_takeAllOf, w.before args s = true) (hown : s.vm.findClass RX1 = some m.cls) (hlocks : meth.locks = false) (hml : c.maxLocals = 5) (hK : va_K D vwCl (hs_ty d) s) (hE : hs_E d.2.2.2.2 A s)  : ∀ (k n : Nat), n + k = F → ∀ (H : Heap) (locs : List Loc), hs_W D d L ((sp_tk σ q n).2) A H → va_S A s.heap H locs → ∀ ls : Array Slot, lv_has ls 5 [(0, .ref (L 0 0)), (1, .ref (L 4 q)), (2, .int ((sp_tk σ q n).1)), (3, .int (nI n))] → W p l e ({ frames := 1, cells := 0, slots := 0, locals := 20 } : Room) s m args below meth c H locs 0 0 (MQ below (va_Qi (fun r τ => (sp_tk σ q F).1 = r ∧ (sp_tk σ q F).2 = τ) (fun τ t => hs_B D d L τ A t) A) args s 0 0 A) (F0 m 4 ls []) := by
  intro k
  induction k with
  | zero =>
    intro n hn H locs hW hS ls hl
    have hnN : n = F := by omega
    refine lv_iload_n hx hb dX1_takeAllOf_4 rfl (lv_at hl 3 rfl) ?_
    refine lv_aload_n hx hb dX1_takeAllOf_5 rfl (lv_at hl 0 rfl) ?_
    refine va_get (D := D) (ci := cHo) (C := RX1) (T := TX1) (N := 11) (ws := [(L 0 0, hs_ct d L ((sp_tk σ q n).2) 0 0)]) (v := .int ((sp_tk σ q n).2 0 0 4)) hx hb hts (by decide +kernel) hown hK (hW.one hs_ix0) 0 rfl rfl 4 (by decide) (hts (.fieldLink RX1 49 "Waxrow$House" "figureCount" "I") (by decide +kernel)) (fun _ h9 => h9) rfl dX1_takeAllOf_6 ?_
    refine lv_icmp_ge (tgt := 52) hx hb dX1_takeAllOf_9 (by decide) (fun c_9 => ?_) (fun c_9 => ?_)
    · refine lv_iload_n hx hb dX1_takeAllOf_52 rfl (lv_at hl 2 rfl) ?_
      exact W.iret (v := (sp_tk σ q n).1) hx hb hr (fun t ht hW9 => ⟨⟨((sp_tk σ q n).1), ((sp_tk σ q n).2), rfl, ⟨by rw [hnN], by rw [hnN]⟩, ⟨by rw [ht]; exact hW, va_K.moved hW9.alike hK⟩⟩, hS.F ht⟩) hS.2.2 dX1_takeAllOf_53
    · exact absurd (by rw [(show (sp_tk σ q n).2 0 0 4 = nI F by rw [sp_tk_cnt]; exact hF), hnN]; exact nI_le (Nat.le_refl _) (by omega)) c_9
  | succ k ih =>
    intro n hn H locs hW hS ls hl
    have hnN : n < F := by omega
    refine lv_iload_n hx hb dX1_takeAllOf_4 rfl (lv_at hl 3 rfl) ?_
    refine lv_aload_n hx hb dX1_takeAllOf_5 rfl (lv_at hl 0 rfl) ?_
    refine va_get (D := D) (ci := cHo) (C := RX1) (T := TX1) (N := 11) (ws := [(L 0 0, hs_ct d L ((sp_tk σ q n).2) 0 0)]) (v := .int ((sp_tk σ q n).2 0 0 4)) hx hb hts (by decide +kernel) hown hK (hW.one hs_ix0) 0 rfl rfl 4 (by decide) (hts (.fieldLink RX1 49 "Waxrow$House" "figureCount" "I") (by decide +kernel)) (fun _ h9 => h9) rfl dX1_takeAllOf_6 ?_
    refine lv_icmp_ge (tgt := 52) hx hb dX1_takeAllOf_9 (by decide) (fun c_9 => ?_) (fun c_9 => ?_)
    · exact absurd (by rw [(show (sp_tk σ q n).2 0 0 4 = nI F by rw [sp_tk_cnt]; exact hF)] at c_9; exact c_9) (nI_ge hnN (by omega))
    · refine lv_aload_n hx hb dX1_takeAllOf_12 rfl (lv_at hl 0 rfl) ?_
      refine va_get (D := D) (ci := cHo) (C := RX1) (T := TX1) (N := 11) (ws := [(L 0 0, hs_ct d L ((sp_tk σ q n).2) 0 0)]) (v := .ref (L 2 0)) hx hb hts (by decide +kernel) hown hK (hW.one hs_ix0) 0 rfl rfl 1 (by decide) (hts (.fieldLink RX1 22 "Waxrow$House" "figures" "[LWaxrow$Figure;") (by decide +kernel)) (fun _ h9 => h9) rfl dX1_takeAllOf_13 ?_
      refine lv_iload_n hx hb dX1_takeAllOf_16 rfl (lv_at hl 3 rfl) ?_
      refine hs_aald (n := 8) (g := fun j => L 9 j) hx hb hK hW 2 2 hs_ix2 rfl rfl (vp_in_nI (show n < 8 by omega) (by decide)) dX1_takeAllOf_17 ?_
      rw [nI_clamp (show n < 2 ^ 31 by omega)]
      refine lv_astore (lv' := [(4, .ref (L 9 n)), (0, .ref (L 0 0)), (1, .ref (L 4 q)), (2, .int ((sp_tk σ q n).1)), (3, .int (nI n))]) hx hb dX1_takeAllOf_18 hl (by decide) rfl (fun ls hl => ?_)
      refine lv_aload hx hb dX1_takeAllOf_20 (lv_at hl 0 rfl) ?_
      refine va_get (D := D) (ci := cFi) (C := RX0) (T := TX0) (N := 11) (ws := [(L 9 n, hs_ct d L ((sp_tk σ q n).2) 9 n)]) (v := .ref (L 4 (((sp_tk σ q n).2 9 n 0).toNatClampNeg))) hx hb hts (by decide +kernel) hown hK (hW.one (hs_ix9 (show n < 8 by omega))) 0 rfl rfl 0 (by decide) (hts (.fieldLink RX1 64 "Waxrow$Figure" "head" "LWaxrow$Person;") (by decide +kernel)) (fun _ h9 => h9) rfl dX1_takeAllOf_22 ?_
      refine lv_aload_n hx hb dX1_takeAllOf_25 rfl (lv_at hl 2 rfl) ?_
      refine lv_acmp_ne (rx := some (L 4 (((sp_tk σ q n).2 9 n 0).toNatClampNeg))) (ry := some (L 4 q)) (tgt := 46) hx hb dX1_takeAllOf_26 (by decide) (fun c_26 => ?_) (fun c_26 => ?_)
      · have c_26 : ¬ (((sp_tk σ q n).2 9 n 0).toNatClampNeg) = q := fun q => c_26 (by rw [q])
        refine lv_iinc (v := nI (n + 1)) (lv' := [(3, .int (nI (n + 1))), (4, .ref (L 9 n)), (0, .ref (L 0 0)), (1, .ref (L 4 q)), (2, .int ((sp_tk σ q n).1))]) hx hb dX1_takeAllOf_46 hl (k := 4) rfl (nI_succ _).symm (by decide) rfl (fun ls hl => ?_)
        refine lv_goto (tgt := 4) hx hb dX1_takeAllOf_49 (by decide) ?_
        have e_q : sp_tk σ q (n + 1) = ((sp_tk σ q n).1, (sp_tk σ q n).2) := by first | (simp only [sp_tk, c_26, eq_self, ↓reduceIte]; done) | (simp [sp_tk, c_26]; done)
        have e_2 : (sp_tk σ q n).1 = (sp_tk σ q (n + 1)).1 := by rw [e_q]
        have e_s : (sp_tk σ q n).2 = (sp_tk σ q (n + 1)).2 := by rw [e_q]
        rw [e_2] at hl
        rw [e_s] at hW
        exact ih (n + 1) (by omega) _ _ hW hS ls (lv_sub hl [2, 3, 4, 0] rfl)
      · have c_26 : (((sp_tk σ q n).2 9 n 0).toNatClampNeg) = q := (hW.2.2 _ _ _ _ (hs_ix4 (show _ < 10 by rw [sp_tk_head]; exact (hh n (by omega)).1)) (hs_ix4 hq) (Option.some.inj c_26)).2
        refine lv_aload hx hb dX1_takeAllOf_29 (lv_at hl 0 rfl) ?_
        refine hs_calli (As := []) ⟨hx, hb, hml, hown, hts⟩ (kX0_isShown l D d L ((sp_tk σ q n).2) A n (show n < 8 by omega)) (cwV 0 hts gX1_takeAllOf_X0_isShown rfl rfl rfl (by decide +kernel) ⟨Nat.le_of_ble_eq_true rfl, Nat.le_of_ble_eq_true rfl⟩) hK hE hW hS (hs_ix9 (show n < 8 by omega)) (ci := cFi) (r := (RX0, TX0, 11)) rfl rfl rfl rfl hl.1 (Nat.le_of_ble_eq_true rfl) dX1_takeAllOf_31 ⟨Nat.zero_le _, Nat.zero_le _⟩ rfl (fun r_ τ_ H locs hp hW hS => ?_)
        obtain ⟨rfl, rfl⟩ := hp
        refine lv_if_eq (tgt := 46) hx hb dX1_takeAllOf_34 (by decide) (fun c_34 => ?_) (fun c_34 => ?_)
        · refine lv_iinc (v := nI (n + 1)) (lv' := [(3, .int (nI (n + 1))), (4, .ref (L 9 n)), (0, .ref (L 0 0)), (1, .ref (L 4 q)), (2, .int ((sp_tk σ q n).1))]) hx hb dX1_takeAllOf_46 hl (k := 4) rfl (nI_succ _).symm (by decide) rfl (fun ls hl => ?_)
          refine lv_goto (tgt := 4) hx hb dX1_takeAllOf_49 (by decide) ?_
          have e_q : sp_tk σ q (n + 1) = ((sp_tk σ q n).1, (sp_tk σ q n).2) := by first | (simp only [sp_tk, c_26, c_34, eq_self, ↓reduceIte]; done) | (simp [sp_tk, c_26, c_34]; done)
          have e_2 : (sp_tk σ q n).1 = (sp_tk σ q (n + 1)).1 := by rw [e_q]
          have e_s : (sp_tk σ q n).2 = (sp_tk σ q (n + 1)).2 := by rw [e_q]
          rw [e_2] at hl
          rw [e_s] at hW
          exact ih (n + 1) (by omega) _ _ hW hS ls (lv_sub hl [2, 3, 4, 0] rfl)
        · refine lv_aload hx hb dX1_takeAllOf_37 (lv_at hl 0 rfl) ?_
          refine lv_iconst (v := 5) hx hb dX1_takeAllOf_39 (by decide) ?_
          refine hs_put (ci := cFi) (C := RX0) (T := TX0) (N := 11) (ty := .int) hx hb hts (by decide +kernel) tyX0 tyX0_ok nmX0 hown hK hW hS 9 n (hs_ix9 (show n < 8 by omega)) rfl rfl 7 (by decide) (hts (.fieldLink RX1 107 "Waxrow$Figure" "place" "I") (by decide +kernel)) (fun _ h9 => h9) rfl (by decide +kernel) rfl rfl (Nat.le_of_ble_eq_true rfl) (hs_sg ((sp_tk σ q n).2) 9 n 7 5) (by simp [hs_ct, hs_sg]) (hs_off _ _ _ _ _) dX1_takeAllOf_40 (fun H locs hW hS => ?_)
          refine lv_iinc (v := ((sp_tk σ q n).1) + 1) (lv' := [(2, .int (((sp_tk σ q n).1) + 1)), (4, .ref (L 9 n)), (0, .ref (L 0 0)), (1, .ref (L 4 q)), (3, .int (nI n))]) hx hb dX1_takeAllOf_43 hl (k := 3) rfl rfl (by decide) rfl (fun ls hl => ?_)
          refine lv_iinc (v := nI (n + 1)) (lv' := [(3, .int (nI (n + 1))), (2, .int (((sp_tk σ q n).1) + 1)), (4, .ref (L 9 n)), (0, .ref (L 0 0)), (1, .ref (L 4 q))]) hx hb dX1_takeAllOf_46 hl (k := 4) rfl (nI_succ _).symm (by decide) rfl (fun ls hl => ?_)
          refine lv_goto (tgt := 4) hx hb dX1_takeAllOf_49 (by decide) ?_
          have e_q : sp_tk σ q (n + 1) = (((sp_tk σ q n).1) + 1, (hs_sg ((sp_tk σ q n).2) 9 n 7 5)) := by first | (simp only [sp_tk, c_26, c_34, eq_self, ↓reduceIte]; done) | (simp [sp_tk, c_26, c_34]; done)
          have e_2 : ((sp_tk σ q n).1) + 1 = (sp_tk σ q (n + 1)).1 := by rw [e_q]
          have e_s : (hs_sg ((sp_tk σ q n).2) 9 n 7 5) = (sp_tk σ q (n + 1)).2 := by rw [e_q]
          rw [e_2] at hl
          rw [e_s] at hW
          exact ih (n + 1) (by omega) _ _ hW hS ls (lv_sub hl [3, 4, 1, 0] rfl)
set_option maxHeartbeats 4000000 in
set_option maxRecDepth 100000 in
/-- takeAllOf -/
theorem kX1_takeAllOf (l : Launch) (D : va_G) (d : hs_Dm) (L : hs_Lo) (σ : hs_St) (A : Nat → Prop) (q : Nat) (hq : q < 10) (F : Nat) (hF : σ 0 0 4 = nI F) (hF8 : F ≤ 8) (hh : hs_hd σ) : hs_Mi l yX1_takeAllOf wsX1_takeAllOf ({ frames := 1, cells := 0, slots := 0, locals := 20 }) D d L σ A [.ref (L 0 0), .ref (L 4 q)] (fun r τ => (sp_tk σ q F).1 = r ∧ (sp_tk σ q F).2 = τ) := by
  refine Met.ofW (cc := cX1_takeAllOf) (maxL := 5) (ret := (some .int)) (by decide) rfl ?_
  intro p e s m args below meth c s₁ B hml hv
  obtain ⟨rfl, ⟨hW, hK⟩, hE⟩ := hv
  have hx := B.exec
  have hb := B.bytes
  have hr := B.returns
  have hts := atoms_spec (ws := wsX1_takeAllOf) B.pre
  have hown : s.vm.findClass RX1 = some m.cls := findClass_of_methodNamed B.named
  have hlocks := B.notSynchronized
  have hS : va_S A s.heap s.heap [] := va_S.rf
  have hW : hs_W D d L σ A s.heap := hW
  have hl := lv_entry ([.ref (L 0 0), .ref (L 4 q)]) (n := 5) (Nat.le_of_ble_eq_true rfl)
  rw [lg_entry_eq]
  generalize (lg_sl ([.ref (L 0 0), .ref (L 4 q)]) ++ List.replicate (5 - (lg_sl ([.ref (L 0 0), .ref (L 4 q)])).length) Slot.unset).toArray = ls at hl ⊢
  have hl : lv_has ls 5 [(0, .ref (L 0 0)), (1, .ref (L 4 q))] := hl
  refine lv_iconst (v := 0) hx hb dX1_takeAllOf_0 (by decide) ?_
  refine lv_istore_n (lv' := [(2, .int 0), (0, .ref (L 0 0)), (1, .ref (L 4 q))]) hx hb dX1_takeAllOf_1 rfl hl (by decide) rfl (fun ls hl => ?_)
  refine lv_iconst (v := 0) hx hb dX1_takeAllOf_2 (by decide) ?_
  refine lv_istore_n (lv' := [(3, .int 0), (2, .int 0), (0, .ref (L 0 0)), (1, .ref (L 4 q))]) hx hb dX1_takeAllOf_3 rfl hl (by decide) rfl (fun ls hl => ?_)
  exact lkX1_takeAllOf l D d L σ A q hq F hF hF8 hh hx hb hr hts hown hlocks hml hK hE  F 0 (by omega) _ _ hW hS ls (lv_sub hl [2, 3, 1, 0] rfl)
set_option maxHeartbeats 4000000 in
set_option maxRecDepth 100000 in
/-- checkIndex of an index that is within -/
theorem kX4_checkIndex (l : Launch) (D : va_G) (d : hs_Dm) (L : hs_Lo) (σ : hs_St) (A : Nat → Prop) (x y : Int32) (h0 : ¬ x < 0) (h1 : x < y) : hs_Mv l yX4_checkIndex wsX4_checkIndex ({ frames := 0, cells := 0, slots := 0, locals := 0 }) D d L σ A [.int x, .int y] (fun τ => σ = τ) := by
  refine Met.ofW (cc := cX4_checkIndex) (maxL := 2) (ret := none) (by decide) rfl ?_
  intro p e s m args below meth c s₁ B hml hv
  obtain ⟨rfl, ⟨hW, hK⟩, hE⟩ := hv
  have hx := B.exec
  have hb := B.bytes
  have hr := B.returns
  have hts := atoms_spec (ws := wsX4_checkIndex) B.pre
  have hown : s.vm.findClass RX4 = some m.cls := findClass_of_methodNamed B.named
  have hlocks := B.notSynchronized
  have hS : va_S A s.heap s.heap [] := va_S.rf
  have hW : hs_W D d L σ A s.heap := hW
  have hl := lv_entry ([.int x, .int y]) (n := 2) (Nat.le_of_ble_eq_true rfl)
  rw [lg_entry_eq]
  generalize (lg_sl ([.int x, .int y]) ++ List.replicate (2 - (lg_sl ([.int x, .int y])).length) Slot.unset).toArray = ls at hl ⊢
  have hl : lv_has ls 2 [(0, .int x), (1, .int y)] := hl
  refine lv_iload_n hx hb dX4_checkIndex_0 rfl (lv_at hl 0 rfl) ?_
  refine lv_if_lt (tgt := 9) hx hb dX4_checkIndex_1 (by decide) (fun c_1 => ?_) (fun c_1 => ?_)
  · exact absurd c_1 h0
  · refine lv_iload_n hx hb dX4_checkIndex_4 rfl (lv_at hl 0 rfl) ?_
    refine lv_iload_n hx hb dX4_checkIndex_5 rfl (lv_at hl 1 rfl) ?_
    refine lv_icmp_lt (tgt := 20) hx hb dX4_checkIndex_6 (by decide) (fun c_6 => ?_) (fun c_6 => ?_)
    · exact W.vret hx hb hr (fun t ht hW9 => ⟨⟨σ, rfl, rfl, ⟨by rw [ht]; exact hW, va_K.moved hW9.alike hK⟩⟩, hS.F ht⟩) hS.2.2 dX4_checkIndex_20
    · exact absurd h1 c_6
set_option maxHeartbeats 4000000 in
set_option maxRecDepth 100000 in
/-- personAt -/
theorem kX1_personAt (l : Launch) (D : va_G) (d : hs_Dm) (L : hs_Lo) (σ : hs_St) (A : Nat → Prop) (n N : Nat) (hN : σ 0 0 3 = nI N) (hn : n < N) (hN8 : N ≤ 10) : hs_Mr l yX1_personAt wsX1_personAt ({ frames := 1, cells := 0, slots := 0, locals := 21 }) D d L σ A [.ref (L 0 0), .int (nI n)] (L 4 n) := by
  refine Met.ofW (cc := cX1_personAt) (maxL := 2) (ret := (some (.object "Waxrow$Person"))) (by decide) rfl ?_
  intro p e s m args below meth c s₁ B hml hv
  obtain ⟨rfl, ⟨hW, hK⟩, hE⟩ := hv
  have hx := B.exec
  have hb := B.bytes
  have hr := B.returns
  have hts := atoms_spec (ws := wsX1_personAt) B.pre
  have hown : s.vm.findClass RX1 = some m.cls := findClass_of_methodNamed B.named
  have hlocks := B.notSynchronized
  have hS : va_S A s.heap s.heap [] := va_S.rf
  have hW : hs_W D d L σ A s.heap := hW
  have hl := lv_entry ([.ref (L 0 0), .int (nI n)]) (n := 2) (Nat.le_of_ble_eq_true rfl)
  rw [lg_entry_eq]
  generalize (lg_sl ([.ref (L 0 0), .int (nI n)]) ++ List.replicate (2 - (lg_sl ([.ref (L 0 0), .int (nI n)])).length) Slot.unset).toArray = ls at hl ⊢
  have hl : lv_has ls 2 [(0, .ref (L 0 0)), (1, .int (nI n))] := hl
  refine lv_iload_n hx hb dX1_personAt_0 rfl (lv_at hl 1 rfl) ?_
  refine lv_aload_n hx hb dX1_personAt_1 rfl (lv_at hl 0 rfl) ?_
  refine va_get (D := D) (ci := cHo) (C := RX1) (T := TX1) (N := 11) (ws := [(L 0 0, hs_ct d L σ 0 0)]) (v := .int (σ 0 0 3)) hx hb hts (by decide +kernel) hown hK (hW.one hs_ix0) 0 rfl rfl 3 (by decide) (hts (.fieldLink RX1 46 "Waxrow$House" "personCount" "I") (by decide +kernel)) (fun _ h9 => h9) rfl dX1_personAt_2 ?_
  refine hs_runvN (As := [.int (nI n), .int (σ 0 0 3)]) ⟨hx, hb, hml, hown, hts⟩ (kX4_checkIndex l D d L σ A (nI n) (σ 0 0 3) (nI_pos (by omega)) (by rw [hN]; exact nI_lt hn (by omega))) ⟨va_cnB 2 hts gX1_personAt_X4_checkIndex_n87 rfl rfl rfl hE.1 (hts (.initialized RX4) (by decide +kernel)) (by decide +kernel) ⟨Nat.le_of_ble_eq_true rfl, Nat.le_of_ble_eq_true rfl⟩, hts (.static yX4_checkIndex) (by decide +kernel), trivial⟩ hK hE hW hS rfl hl.1 (Nat.le_of_ble_eq_true rfl) dX1_personAt_5 ⟨Nat.zero_le _, Nat.zero_le _⟩ rfl (fun τ_ H locs hp hW hS => ?_)
  obtain rfl := hp
  refine lv_aload_n hx hb dX1_personAt_8 rfl (lv_at hl 0 rfl) ?_
  refine va_get (D := D) (ci := cHo) (C := RX1) (T := TX1) (N := 11) (ws := [(L 0 0, hs_ct d L σ 0 0)]) (v := .ref (L 1 0)) hx hb hts (by decide +kernel) hown hK (hW.one hs_ix0) 0 rfl rfl 0 (by decide) (hts (.fieldLink RX1 11 "Waxrow$House" "persons" "[LWaxrow$Person;") (by decide +kernel)) (fun _ h9 => h9) rfl dX1_personAt_9 ?_
  refine lv_iload_n hx hb dX1_personAt_12 rfl (lv_at hl 1 rfl) ?_
  refine hs_aald (n := 10) (g := fun j => L 4 j) hx hb hK hW 1 1 hs_ix1 rfl rfl (vp_in_nI (show n < 10 by omega) (by decide)) dX1_personAt_13 ?_
  rw [nI_clamp (show n < 2 ^ 31 by omega)]
  exact W.aret (v := .ref (L 4 n)) hx hb hr (Or.inl ⟨_, rfl⟩) (Or.inr ⟨_, rfl⟩) (fun t ht hW9 => ⟨⟨(), _, rfl, trivial, rfl, ⟨by rw [ht]; exact hW, va_K.moved hW9.alike hK⟩⟩, hS.F ht⟩) hS.2.2 dX1_personAt_14
set_option maxHeartbeats 4000000 in
set_option maxRecDepth 100000 in
/-- figureAt -/
theorem kX1_figureAt (l : Launch) (D : va_G) (d : hs_Dm) (L : hs_Lo) (σ : hs_St) (A : Nat → Prop) (n N : Nat) (hN : σ 0 0 4 = nI N) (hn : n < N) (hN8 : N ≤ 8) : hs_Mr l yX1_figureAt wsX1_figureAt ({ frames := 1, cells := 0, slots := 0, locals := 21 }) D d L σ A [.ref (L 0 0), .int (nI n)] (L 9 n) := by
  refine Met.ofW (cc := cX1_figureAt) (maxL := 2) (ret := (some (.object "Waxrow$Figure"))) (by decide) rfl ?_
  intro p e s m args below meth c s₁ B hml hv
  obtain ⟨rfl, ⟨hW, hK⟩, hE⟩ := hv
  have hx := B.exec
  have hb := B.bytes
  have hr := B.returns
  have hts := atoms_spec (ws := wsX1_figureAt) B.pre
  have hown : s.vm.findClass RX1 = some m.cls := findClass_of_methodNamed B.named
  have hlocks := B.notSynchronized
  have hS : va_S A s.heap s.heap [] := va_S.rf
  have hW : hs_W D d L σ A s.heap := hW
  have hl := lv_entry ([.ref (L 0 0), .int (nI n)]) (n := 2) (Nat.le_of_ble_eq_true rfl)
  rw [lg_entry_eq]
  generalize (lg_sl ([.ref (L 0 0), .int (nI n)]) ++ List.replicate (2 - (lg_sl ([.ref (L 0 0), .int (nI n)])).length) Slot.unset).toArray = ls at hl ⊢
  have hl : lv_has ls 2 [(0, .ref (L 0 0)), (1, .int (nI n))] := hl
  refine lv_iload_n hx hb dX1_figureAt_0 rfl (lv_at hl 1 rfl) ?_
  refine lv_aload_n hx hb dX1_figureAt_1 rfl (lv_at hl 0 rfl) ?_
  refine va_get (D := D) (ci := cHo) (C := RX1) (T := TX1) (N := 11) (ws := [(L 0 0, hs_ct d L σ 0 0)]) (v := .int (σ 0 0 4)) hx hb hts (by decide +kernel) hown hK (hW.one hs_ix0) 0 rfl rfl 4 (by decide) (hts (.fieldLink RX1 49 "Waxrow$House" "figureCount" "I") (by decide +kernel)) (fun _ h9 => h9) rfl dX1_figureAt_2 ?_
  refine hs_runvN (As := [.int (nI n), .int (σ 0 0 4)]) ⟨hx, hb, hml, hown, hts⟩ (kX4_checkIndex l D d L σ A (nI n) (σ 0 0 4) (nI_pos (by omega)) (by rw [hN]; exact nI_lt hn (by omega))) ⟨va_cnB 2 hts gX1_figureAt_X4_checkIndex_n87 rfl rfl rfl hE.1 (hts (.initialized RX4) (by decide +kernel)) (by decide +kernel) ⟨Nat.le_of_ble_eq_true rfl, Nat.le_of_ble_eq_true rfl⟩, hts (.static yX4_checkIndex) (by decide +kernel), trivial⟩ hK hE hW hS rfl hl.1 (Nat.le_of_ble_eq_true rfl) dX1_figureAt_5 ⟨Nat.zero_le _, Nat.zero_le _⟩ rfl (fun τ_ H locs hp hW hS => ?_)
  obtain rfl := hp
  refine lv_aload_n hx hb dX1_figureAt_8 rfl (lv_at hl 0 rfl) ?_
  refine va_get (D := D) (ci := cHo) (C := RX1) (T := TX1) (N := 11) (ws := [(L 0 0, hs_ct d L σ 0 0)]) (v := .ref (L 2 0)) hx hb hts (by decide +kernel) hown hK (hW.one hs_ix0) 0 rfl rfl 1 (by decide) (hts (.fieldLink RX1 22 "Waxrow$House" "figures" "[LWaxrow$Figure;") (by decide +kernel)) (fun _ h9 => h9) rfl dX1_figureAt_9 ?_
  refine lv_iload_n hx hb dX1_figureAt_12 rfl (lv_at hl 1 rfl) ?_
  refine hs_aald (n := 8) (g := fun j => L 9 j) hx hb hK hW 2 2 hs_ix2 rfl rfl (vp_in_nI (show n < 8 by omega) (by decide)) dX1_figureAt_13 ?_
  rw [nI_clamp (show n < 2 ^ 31 by omega)]
  exact W.aret (v := .ref (L 9 n)) hx hb hr (Or.inl ⟨_, rfl⟩) (Or.inr ⟨_, rfl⟩) (fun t ht hW9 => ⟨⟨(), _, rfl, trivial, rfl, ⟨by rw [ht]; exact hW, va_K.moved hW9.alike hK⟩⟩, hS.F ht⟩) hS.2.2 dX1_figureAt_14
set_option maxHeartbeats 4000000 in
set_option maxRecDepth 100000 in
/-- roomAt -/
theorem kX1_roomAt (l : Launch) (D : va_G) (d : hs_Dm) (L : hs_Lo) (σ : hs_St) (A : Nat → Prop) (n N : Nat) (hN : σ 0 0 5 = nI N) (hn : n < N) (hN8 : N ≤ 5) : hs_Mr l yX1_roomAt wsX1_roomAt ({ frames := 1, cells := 0, slots := 0, locals := 21 }) D d L σ A [.ref (L 0 0), .int (nI n)] (L 10 n) := by
  refine Met.ofW (cc := cX1_roomAt) (maxL := 2) (ret := (some (.object "Waxrow$Room"))) (by decide) rfl ?_
  intro p e s m args below meth c s₁ B hml hv
  obtain ⟨rfl, ⟨hW, hK⟩, hE⟩ := hv
  have hx := B.exec
  have hb := B.bytes
  have hr := B.returns
  have hts := atoms_spec (ws := wsX1_roomAt) B.pre
  have hown : s.vm.findClass RX1 = some m.cls := findClass_of_methodNamed B.named
  have hlocks := B.notSynchronized
  have hS : va_S A s.heap s.heap [] := va_S.rf
  have hW : hs_W D d L σ A s.heap := hW
  have hl := lv_entry ([.ref (L 0 0), .int (nI n)]) (n := 2) (Nat.le_of_ble_eq_true rfl)
  rw [lg_entry_eq]
  generalize (lg_sl ([.ref (L 0 0), .int (nI n)]) ++ List.replicate (2 - (lg_sl ([.ref (L 0 0), .int (nI n)])).length) Slot.unset).toArray = ls at hl ⊢
  have hl : lv_has ls 2 [(0, .ref (L 0 0)), (1, .int (nI n))] := hl
  refine lv_iload_n hx hb dX1_roomAt_0 rfl (lv_at hl 1 rfl) ?_
  refine lv_aload_n hx hb dX1_roomAt_1 rfl (lv_at hl 0 rfl) ?_
  refine va_get (D := D) (ci := cHo) (C := RX1) (T := TX1) (N := 11) (ws := [(L 0 0, hs_ct d L σ 0 0)]) (v := .int (σ 0 0 5)) hx hb hts (by decide +kernel) hown hK (hW.one hs_ix0) 0 rfl rfl 5 (by decide) (hts (.fieldLink RX1 52 "Waxrow$House" "roomCount" "I") (by decide +kernel)) (fun _ h9 => h9) rfl dX1_roomAt_2 ?_
  refine hs_runvN (As := [.int (nI n), .int (σ 0 0 5)]) ⟨hx, hb, hml, hown, hts⟩ (kX4_checkIndex l D d L σ A (nI n) (σ 0 0 5) (nI_pos (by omega)) (by rw [hN]; exact nI_lt hn (by omega))) ⟨va_cnB 2 hts gX1_roomAt_X4_checkIndex_n87 rfl rfl rfl hE.1 (hts (.initialized RX4) (by decide +kernel)) (by decide +kernel) ⟨Nat.le_of_ble_eq_true rfl, Nat.le_of_ble_eq_true rfl⟩, hts (.static yX4_checkIndex) (by decide +kernel), trivial⟩ hK hE hW hS rfl hl.1 (Nat.le_of_ble_eq_true rfl) dX1_roomAt_5 ⟨Nat.zero_le _, Nat.zero_le _⟩ rfl (fun τ_ H locs hp hW hS => ?_)
  obtain rfl := hp
  refine lv_aload_n hx hb dX1_roomAt_8 rfl (lv_at hl 0 rfl) ?_
  refine va_get (D := D) (ci := cHo) (C := RX1) (T := TX1) (N := 11) (ws := [(L 0 0, hs_ct d L σ 0 0)]) (v := .ref (L 3 0)) hx hb hts (by decide +kernel) hown hK (hW.one hs_ix0) 0 rfl rfl 2 (by decide) (hts (.fieldLink RX1 31 "Waxrow$House" "rooms" "[LWaxrow$Room;") (by decide +kernel)) (fun _ h9 => h9) rfl dX1_roomAt_9 ?_
  refine lv_iload_n hx hb dX1_roomAt_12 rfl (lv_at hl 1 rfl) ?_
  refine hs_aald (n := 5) (g := fun j => L 10 j) hx hb hK hW 3 3 hs_ix3 rfl rfl (vp_in_nI (show n < 5 by omega) (by decide)) dX1_roomAt_13 ?_
  rw [nI_clamp (show n < 2 ^ 31 by omega)]
  exact W.aret (v := .ref (L 10 n)) hx hb hr (Or.inl ⟨_, rfl⟩) (Or.inr ⟨_, rfl⟩) (fun t ht hW9 => ⟨⟨(), _, rfl, trivial, rfl, ⟨by rw [ht]; exact hW, va_K.moved hW9.alike hK⟩⟩, hS.F ht⟩) hS.2.2 dX1_roomAt_14
