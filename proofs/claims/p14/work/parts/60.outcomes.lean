/-! EACH CALL OF THE CLASS: which exception, or what answer -/
set_option maxHeartbeats 4000000 in
set_option maxRecDepth 100000 in
/-- pay throws -/
theorem iX4_pay1 (l : Launch) (D : va_G) (d : hs_Dm) (L : hs_Lo) (σ : hs_St) (A : Nat → Prop) (w : Nat) (L2 : hs_Lo) (hwA : ¬ A w) (hl0 : l.stackTraces = false) (x : Int32) (h0 : x < 0 ∨ ¬ x < σ 0 0 3) : wx_T l yX4_pay wsX4_pay ({ frames := 8, cells := 1, slots := 6, locals := 150 }) D d w L L2 σ A [.ref w, .int x] "java/lang/IndexOutOfBoundsException" := by
  refine vx_ofW (cc := cX4_pay) (maxL := 4) (ret := (some .int)) (by decide) rfl ?_
  intro p e s m args below meth c s₁ B hml htb hv
  obtain ⟨rfl, ⟨⟨hW, hK⟩, hX⟩, hV⟩ := hv
  have hE := hX.1
  have hx := B.exec
  have hb := B.bytes
  have hr := B.returns
  have hts := atoms_spec (ws := wsX4_pay) B.pre
  have hown : s.vm.findClass RX4 = some m.cls := findClass_of_methodNamed B.named
  have hlocks := B.notSynchronized
  have hS : va_S A s.heap s.heap [] := va_S.rf
  have hW : hs_W D d L σ A s.heap := hW
  have hl := lv_entry ([.ref w, .int x]) (n := 4) (Nat.le_of_ble_eq_true rfl)
  rw [lg_entry_eq]
  generalize (lg_sl ([.ref w, .int x]) ++ List.replicate (4 - (lg_sl ([.ref w, .int x])).length) Slot.unset).toArray = ls at hl ⊢
  have hl : lv_has ls 4 [(0, .ref w), (1, .int x)] := hl
  refine lv_aload_n hx hb dX4_pay_0 rfl (lv_at hl 0 rfl) ?_
  refine va_get (D := D) (ci := cWx) (C := RX4) (T := TX4) (N := 2) (ws := [(w, .inr (cWx, [.ref (L 0 0), .ref (L2 0 0)]))]) (v := .ref (L 0 0)) hx hb hts (by decide +kernel) hown hK (wx_one hV hS hwA) 0 rfl rfl 0 (by decide) (hts (.fieldLink RX4 10 "Waxrow" "house" "LWaxrow$House;") (by decide +kernel)) (fun _ h9 => h9) rfl dX4_pay_1 ?_
  refine lv_iload_n hx hb dX4_pay_4 rfl (lv_at hl 1 rfl) ?_
  exact hx_callT (As := [.int x]) ⟨hx, hb, hml, hown, hts⟩ (tX1_personAt l D d L σ A hl0 x h0) (cwV 1 hts gX4_pay_X1_personAt rfl rfl rfl (by decide +kernel) ⟨Nat.le_of_ble_eq_true rfl, Nat.le_of_ble_eq_true rfl⟩) hK hX hW hS hs_ix0 (ci := cHo) (r := (RX1, TX1, 11)) rfl rfl rfl rfl hl.1 (Nat.le_of_ble_eq_true rfl) dX4_pay_5 ⟨Nat.le_of_ble_eq_true rfl, Nat.le_of_ble_eq_true rfl⟩ rfl (fun ce q9 H1 locs1 hW hS hce hcv hcl => hx_out htb hlocks hK hW hS hce hcv hcl (by decide) (by decide))
set_option maxHeartbeats 4000000 in
set_option maxRecDepth 100000 in
/-- mend throws -/
theorem iX4_mend1 (l : Launch) (D : va_G) (d : hs_Dm) (L : hs_Lo) (σ : hs_St) (A : Nat → Prop) (w : Nat) (L2 : hs_Lo) (hwA : ¬ A w) (hl0 : l.stackTraces = false) (x : Int32) (h0 : x < 0 ∨ ¬ x < σ 0 0 4) : wx_T l yX4_mend wsX4_mend ({ frames := 8, cells := 1, slots := 6, locals := 150 }) D d w L L2 σ A [.ref w, .int x] "java/lang/IndexOutOfBoundsException" := by
  refine vx_ofW (cc := cX4_mend) (maxL := 4) (ret := (some .int)) (by decide) rfl ?_
  intro p e s m args below meth c s₁ B hml htb hv
  obtain ⟨rfl, ⟨⟨hW, hK⟩, hX⟩, hV⟩ := hv
  have hE := hX.1
  have hx := B.exec
  have hb := B.bytes
  have hr := B.returns
  have hts := atoms_spec (ws := wsX4_mend) B.pre
  have hown : s.vm.findClass RX4 = some m.cls := findClass_of_methodNamed B.named
  have hlocks := B.notSynchronized
  have hS : va_S A s.heap s.heap [] := va_S.rf
  have hW : hs_W D d L σ A s.heap := hW
  have hl := lv_entry ([.ref w, .int x]) (n := 4) (Nat.le_of_ble_eq_true rfl)
  rw [lg_entry_eq]
  generalize (lg_sl ([.ref w, .int x]) ++ List.replicate (4 - (lg_sl ([.ref w, .int x])).length) Slot.unset).toArray = ls at hl ⊢
  have hl : lv_has ls 4 [(0, .ref w), (1, .int x)] := hl
  refine lv_aload_n hx hb dX4_mend_0 rfl (lv_at hl 0 rfl) ?_
  refine va_get (D := D) (ci := cWx) (C := RX4) (T := TX4) (N := 2) (ws := [(w, .inr (cWx, [.ref (L 0 0), .ref (L2 0 0)]))]) (v := .ref (L 0 0)) hx hb hts (by decide +kernel) hown hK (wx_one hV hS hwA) 0 rfl rfl 0 (by decide) (hts (.fieldLink RX4 10 "Waxrow" "house" "LWaxrow$House;") (by decide +kernel)) (fun _ h9 => h9) rfl dX4_mend_1 ?_
  refine lv_iload_n hx hb dX4_mend_4 rfl (lv_at hl 1 rfl) ?_
  exact hx_callT (As := [.int x]) ⟨hx, hb, hml, hown, hts⟩ (tX1_figureAt l D d L σ A hl0 x h0) (cwV 1 hts gX4_mend_X1_figureAt rfl rfl rfl (by decide +kernel) ⟨Nat.le_of_ble_eq_true rfl, Nat.le_of_ble_eq_true rfl⟩) hK hX hW hS hs_ix0 (ci := cHo) (r := (RX1, TX1, 11)) rfl rfl rfl rfl hl.1 (Nat.le_of_ble_eq_true rfl) dX4_mend_5 ⟨Nat.le_of_ble_eq_true rfl, Nat.le_of_ble_eq_true rfl⟩ rfl (fun ce q9 H1 locs1 hW hS hce hcv hcl => hx_out htb hlocks hK hW hS hce hcv hcl (by decide) (by decide))
theorem mp_out {x lo hi : Int32} (h : mp_in x lo hi = 0) : x < lo ∨ ¬ x ≤ hi := by
  unfold mp_in at h
  by_cases a : x < lo
  · exact Or.inl a
  · rw [if_neg a] at h
    by_cases b : hi < x
    · exact Or.inr (Int32.not_le.mpr b)
    · rw [if_neg b] at h
      exact absurd h (by decide)
theorem mp_inn {x lo hi : Int32} (h : ¬ mp_in x lo hi = 0) : ¬ x < lo ∧ x ≤ hi := by
  unfold mp_in at h
  by_cases a : x < lo
  · rw [if_pos a] at h
    exact absurd rfl h
  · rw [if_neg a] at h
    by_cases b : hi < x
    · rw [if_pos b] at h
      exact absurd rfl h
    · exact ⟨a, Int32.not_lt.mp b⟩
theorem mp_outn {x : Int32} {n : Nat} (hn : n < 2 ^ 31) (h : mp_in x 0 (nI n - 1) = 0) : x < 0 ∨ ¬ x < nI n := by
  have e : (nI n - 1).toInt = (n : Int) - 1 := by
    rw [tI_sub (by rw [nI_toInt hn, tI_1]; omega) (by rw [nI_toInt hn, tI_1]; omega), nI_toInt hn, tI_1]
  rcases mp_out h with z | z
  · exact Or.inl z
  · refine Or.inr (fun y => z ?_)
    rw [tI_lt, nI_toInt hn] at y
    rw [tI_le, e]
    omega
abbrev wo_T (l : Launch) (y : MethodName) (ws : List Cond) (D : va_G) (d : hs_Dm) (w : Nat) (L L2 : hs_Lo) (σ : hs_St) (A : Nat → Prop) (av : List Value) (c : cl_X) (k : Int32) (E : String) : Prop := c = (k, 0, σ) ∧ wx_T l y ws ({ frames := 8, cells := 1, slots := 6, locals := 150 }) D d w L L2 σ A av E
abbrev wo_O (l : Launch) (y : MethodName) (ws : List Cond) (rm : Room) (D : va_G) (d : hs_Dm) (w : Nat) (L L2 : hs_Lo) (σ : hs_St) (A : Nat → Prop) (av : List Value) (c : cl_X) : Prop := c.1 = 0 ∧ ∃ post, wx_Mi l y ws rm D d w L L2 σ A av post ∧ ∀ r τ, post r τ → c.2.1 = r ∧ c.2.2 = τ
theorem nI_not {n k : Nat} (h : n ≤ k) (c : ¬ nI n = nI k) : n < k := by
  rcases Nat.lt_or_ge n k with z | z
  · exact z
  · exact absurd (by rw [show n = k by omega]) c
theorem mp_out3 {y : Int32} (h : mp_in y 0 2 = 0) : y < 0 ∨ ¬ y < 3 := (mp_out h).imp id (fun z k => z (by
  rw [tI_lt] at k
  rw [tI_le]
  have e3 : (3 : Int32).toInt = 3 := rfl
  have e2 : (2 : Int32).toInt = 2 := rfl
  omega))
theorem mp_out6 {y : Int32} (h : mp_in y 0 5 = 0) : y < 0 ∨ ¬ y < 6 := (mp_out h).imp id (fun z k => z (by
  rw [tI_lt] at k
  rw [tI_le]
  have e3 : (6 : Int32).toInt = 6 := rfl
  have e2 : (5 : Int32).toInt = 5 := rfl
  omega))
theorem oX4_person (l : Launch) (D : va_G) (d : hs_Dm) (L : hs_Lo) (σ : hs_St) (A : Nat → Prop) (w : Nat) (L2 : hs_Lo) (hwA : ¬ A w) (hl0 : l.stackTraces = false) (P F R : Nat) (hok : hs_ok P F R σ) (x y z : Int32) : wo_T l yX4_person wsX4_person D d w L L2 σ A [.ref w, .int x, .int y, .int z] (cl_person P σ x y z) 1 "java/lang/IllegalArgumentException" ∨ wo_T l yX4_person wsX4_person D d w L L2 σ A [.ref w, .int x, .int y, .int z] (cl_person P σ x y z) 2 "java/lang/IllegalStateException" ∨ wo_O l yX4_person wsX4_person ({ frames := 3, cells := 0, slots := 0, locals := 68 }) D d w L L2 σ A [.ref w, .int x, .int y, .int z] (cl_person P σ x y z) := by
  unfold cl_person
  by_cases c1 : mp_in x 0 999 = 0
  · rw [if_pos c1]
    exact Or.inl ⟨rfl, aX4_person_0 l D d L σ A w L2 hwA hl0 x y z (mp_out c1)⟩
  · rw [if_neg c1]
    obtain ⟨a0, a9⟩ := mp_inn c1
    by_cases c2 : mp_in y 0 999 = 0
    · rw [if_pos c2]
      exact Or.inl ⟨rfl, aX4_person_1 l D d L σ A w L2 hwA hl0 x y z a0 a9 (mp_out c2)⟩
    · rw [if_neg c2]
      obtain ⟨b0, b9⟩ := mp_inn c2
      by_cases c3 : mp_in z 0 999 = 0
      · rw [if_pos c3]
        exact Or.inl ⟨rfl, aX4_person_2 l D d L σ A w L2 hwA hl0 x y z a0 a9 b0 b9 (mp_out c3)⟩
      · rw [if_neg c3]
        obtain ⟨e0, e9⟩ := mp_inn c3
        by_cases c4 : nI P = 10
        · rw [if_pos c4]
          exact Or.inr (Or.inl ⟨rfl, uX4_person_1 l D d L σ A w L2 hwA hl0 P F R hok (nI_inj (by have := hok.1; omega) (by decide) (c4 : nI P = nI 10)) x y z a0 a9 b0 b9 e0 e9⟩)
        · rw [if_neg c4]
          exact Or.inr (Or.inr ⟨rfl, _, kX4_person l D d L σ A w L2 hwA P F R hok (nI_not hok.1 (c4 : ¬ nI P = nI 10)) x y z a0 a9 b0 b9 e0 e9, fun _ _ h => h⟩)
theorem oX4_trend (l : Launch) (D : va_G) (d : hs_Dm) (L : hs_Lo) (σ : hs_St) (A : Nat → Prop) (w : Nat) (L2 : hs_Lo) (hwA : ¬ A w) (hl0 : l.stackTraces = false) (P F R : Nat) (hok : hs_ok P F R σ) (x y z : Int32) : wo_T l yX4_trend wsX4_trend D d w L L2 σ A [.ref w, .int x, .int y, .int z] (cl_trend P σ x y z) 1 "java/lang/IndexOutOfBoundsException" ∨ wo_T l yX4_trend wsX4_trend D d w L L2 σ A [.ref w, .int x, .int y, .int z] (cl_trend P σ x y z) 2 "java/lang/IllegalArgumentException" ∨ wo_O l yX4_trend wsX4_trend ({ frames := 2, cells := 0, slots := 0, locals := 45 }) D d w L L2 σ A [.ref w, .int x, .int y, .int z] (cl_trend P σ x y z) := by
  unfold cl_trend
  by_cases c1 : mp_in x 0 (nI P - 1) = 0
  · rw [if_pos c1]
    exact Or.inl ⟨rfl, iX4_trend l D d L σ A w L2 hwA hl0 x (by rw [hok.hP]; exact mp_outn (by have := hok.1; omega) c1) y z⟩
  · rw [if_neg c1]
    obtain ⟨q, hq, rfl⟩ := mp_in_ix (by have := hok.1; omega) c1
    rw [show (nI q).toNatClampNeg = q from nI_clamp (by have := hok.1; omega)]
    by_cases c2 : mp_in y 0 2 = 0
    · rw [if_pos c2]
      exact Or.inl ⟨rfl, uX4_trend_1 l D d L σ A w L2 hwA hl0 P F R hok q hq y z (mp_out3 c2)⟩
    · rw [if_neg c2]
      obtain ⟨j, hj, rfl⟩ := mp_in_le (n := 2) (by decide) c2
      rw [show (nI j).toNatClampNeg = j from nI_clamp (by omega)]
      by_cases c3 : mp_in z (-40) 40 = 0
      · rw [if_pos c3]
        exact Or.inr (Or.inl ⟨rfl, uX4_trend_2 l D d L σ A w L2 hwA hl0 P F R hok q hq j (by omega) z (mp_out c3)⟩)
      · rw [if_neg c3]
        obtain ⟨a0, a9⟩ := mp_inn c3
        exact Or.inr (Or.inr ⟨rfl, _, kX4_trend l D d L σ A w L2 hwA P F R hok q hq j (by omega) z a0 a9, fun _ _ h => h⟩)
theorem oX4_news (l : Launch) (D : va_G) (d : hs_Dm) (L : hs_Lo) (σ : hs_St) (A : Nat → Prop) (w : Nat) (L2 : hs_Lo) (hwA : ¬ A w) (hl0 : l.stackTraces = false) (P F R : Nat) (hok : hs_ok P F R σ) (x y : Int32) : wo_T l yX4_news wsX4_news D d w L L2 σ A [.ref w, .int x, .int y] (cl_news P σ x y) 1 "java/lang/IndexOutOfBoundsException" ∨ wo_T l yX4_news wsX4_news D d w L L2 σ A [.ref w, .int x, .int y] (cl_news P σ x y) 2 "java/lang/IllegalArgumentException" ∨ wo_O l yX4_news wsX4_news ({ frames := 3, cells := 0, slots := 0, locals := 80 }) D d w L L2 σ A [.ref w, .int x, .int y] (cl_news P σ x y) := by
  unfold cl_news
  by_cases c1 : mp_in x 0 (nI P - 1) = 0
  · rw [if_pos c1]
    exact Or.inl ⟨rfl, iX4_news l D d L σ A w L2 hwA hl0 x (by rw [hok.hP]; exact mp_outn (by have := hok.1; omega) c1) y⟩
  · rw [if_neg c1]
    obtain ⟨q, hq, rfl⟩ := mp_in_ix (by have := hok.1; omega) c1
    rw [show (nI q).toNatClampNeg = q from nI_clamp (by have := hok.1; omega)]
    by_cases c2 : mp_in y (-500) 500 = 0
    · rw [if_pos c2]
      exact Or.inr (Or.inl ⟨rfl, uX4_news_1 l D d L σ A w L2 hwA hl0 P F R hok q hq y (mp_out c2)⟩)
    · rw [if_neg c2]
      obtain ⟨a0, a9⟩ := mp_inn c2
      exact Or.inr (Or.inr ⟨rfl, _, kX4_news l D d L σ A w L2 hwA P F R hok q hq y a0 a9, fun _ _ h => h⟩)
theorem oX4_consent (l : Launch) (D : va_G) (d : hs_Dm) (L : hs_Lo) (σ : hs_St) (A : Nat → Prop) (w : Nat) (L2 : hs_Lo) (hwA : ¬ A w) (hl0 : l.stackTraces = false) (P F R : Nat) (hok : hs_ok P F R σ) (x y : Int32) (hz : y = 0 ∨ y = 1) : wo_T l yX4_consent wsX4_consent D d w L L2 σ A [.ref w, .int x, .int y] (cl_consent P F σ x y) 1 "java/lang/IndexOutOfBoundsException" ∨ wo_O l yX4_consent wsX4_consent ({ frames := 2, cells := 0, slots := 0, locals := 50 }) D d w L L2 σ A [.ref w, .int x, .int y] (cl_consent P F σ x y) := by
  unfold cl_consent
  by_cases c1 : mp_in x 0 (nI P - 1) = 0
  · rw [if_pos c1]
    exact Or.inl ⟨rfl, iX4_consent l D d L σ A w L2 hwA hl0 x (by rw [hok.hP]; exact mp_outn (by have := hok.1; omega) c1) y⟩
  · rw [if_neg c1]
    obtain ⟨q, hq, rfl⟩ := mp_in_ix (by have := hok.1; omega) c1
    rw [show (nI q).toNatClampNeg = q from nI_clamp (by have := hok.1; omega)]
    rcases hz with rfl | rfl
    · rw [if_pos rfl]
      exact Or.inr ⟨rfl, _, kX4_consent_0 l D d L σ A w L2 hwA P F R hok q hq, fun _ _ h => h⟩
    · rw [if_neg (by decide)]
      exact Or.inr ⟨rfl, _, kX4_consent_1 l D d L σ A w L2 hwA P F R hok q hq, fun _ _ h => h⟩
theorem oX4_measure (l : Launch) (D : va_G) (d : hs_Dm) (L : hs_Lo) (σ : hs_St) (A : Nat → Prop) (w : Nat) (L2 : hs_Lo) (hwA : ¬ A w) (hl0 : l.stackTraces = false) (P F R : Nat) (hok : hs_ok P F R σ) (x y v u : Int32) : wo_T l yX4_measure wsX4_measure D d w L L2 σ A [.ref w, .int x, .int y, .int v, .int u] (cl_measure P σ x y v u) 1 "java/lang/IndexOutOfBoundsException" ∨ wo_T l yX4_measure wsX4_measure D d w L L2 σ A [.ref w, .int x, .int y, .int v, .int u] (cl_measure P σ x y v u) 2 "java/lang/IllegalArgumentException" ∨ wo_O l yX4_measure wsX4_measure ({ frames := 2, cells := 0, slots := 0, locals := 50 }) D d w L L2 σ A [.ref w, .int x, .int y, .int v, .int u] (cl_measure P σ x y v u) := by
  unfold cl_measure
  by_cases c1 : mp_in x 0 (nI P - 1) = 0
  · rw [if_pos c1]
    exact Or.inl ⟨rfl, iX4_measure l D d L σ A w L2 hwA hl0 x (by rw [hok.hP]; exact mp_outn (by have := hok.1; omega) c1) y v u⟩
  · rw [if_neg c1]
    obtain ⟨q, hq, rfl⟩ := mp_in_ix (by have := hok.1; omega) c1
    rw [show (nI q).toNatClampNeg = q from nI_clamp (by have := hok.1; omega)]
    by_cases c2 : mp_in y 0 5 = 0
    · rw [if_pos c2]
      exact Or.inl ⟨rfl, uX4_measure_1 l D d L σ A w L2 hwA hl0 P F R hok q hq y v u (mp_out6 c2)⟩
    · rw [if_neg c2]
      obtain ⟨j, hj, rfl⟩ := mp_in_le (n := 5) (by decide) c2
      rw [show (nI j).toNatClampNeg = j from nI_clamp (by omega)]
      by_cases c3 : mp_in v 0 99 = 0
      · rw [if_pos c3]
        exact Or.inr (Or.inl ⟨rfl, uX4_measure_2 l D d L σ A w L2 hwA hl0 P F R hok q hq j (by omega) v u (mp_out c3)⟩)
      · rw [if_neg c3]
        obtain ⟨a0, a9⟩ := mp_inn c3
        by_cases c4 : mp_in u 0 20 = 0
        · rw [if_pos c4]
          exact Or.inr (Or.inl ⟨rfl, uX4_measure_3 l D d L σ A w L2 hwA hl0 P F R hok q hq j (by omega) v u a0 a9 (mp_out c4)⟩)
        · rw [if_neg c4]
          obtain ⟨b0, b9⟩ := mp_inn c4
          exact Or.inr (Or.inr ⟨rfl, _, kX4_measure l D d L σ A w L2 hwA P F R hok q hq j (by omega) v u a0 a9 b0 b9, fun _ _ h => ⟨by rw [h.1]; exact h.2, h.1⟩⟩)
theorem oX4_pay (l : Launch) (D : va_G) (d : hs_Dm) (L : hs_Lo) (σ : hs_St) (A : Nat → Prop) (w : Nat) (L2 : hs_Lo) (hwA : ¬ A w) (hl0 : l.stackTraces = false) (P F R : Nat) (hok : hs_ok P F R σ) (x : Int32) : wo_T l yX4_pay wsX4_pay D d w L L2 σ A [.ref w, .int x] (cl_pay P σ x) 1 "java/lang/IndexOutOfBoundsException" ∨ wo_O l yX4_pay wsX4_pay ({ frames := 2, cells := 0, slots := 0, locals := 60 }) D d w L L2 σ A [.ref w, .int x] (cl_pay P σ x) := by
  unfold cl_pay
  by_cases c1 : mp_in x 0 (nI P - 1) = 0
  · rw [if_pos c1]
    exact Or.inl ⟨rfl, iX4_pay1 l D d L σ A w L2 hwA hl0 x (by rw [hok.hP]; exact mp_outn (by have := hok.1; omega) c1)⟩
  · rw [if_neg c1]
    obtain ⟨q, hq, rfl⟩ := mp_in_ix (by have := hok.1; omega) c1
    rw [show (nI q).toNatClampNeg = q from nI_clamp (by have := hok.1; omega)]
    exact Or.inr ⟨rfl, _, kX4_pay l D d L σ A w L2 hwA P F R hok q hq, fun _ _ h => h⟩
theorem oX4_figure (l : Launch) (D : va_G) (d : hs_Dm) (L : hs_Lo) (σ : hs_St) (A : Nat → Prop) (w : Nat) (L2 : hs_Lo) (hwA : ¬ A w) (hl0 : l.stackTraces = false) (P F R : Nat) (hok : hs_ok P F R σ) (x : Int32) : wo_T l yX4_figure wsX4_figure D d w L L2 σ A [.ref w, .int x] (cl_figure P F σ x) 1 "java/lang/IndexOutOfBoundsException" ∨ wo_T l yX4_figure wsX4_figure D d w L L2 σ A [.ref w, .int x] (cl_figure P F σ x) 2 "java/lang/IllegalStateException" ∨ wo_O l yX4_figure wsX4_figure ({ frames := 3, cells := 0, slots := 0, locals := 68 }) D d w L L2 σ A [.ref w, .int x] (cl_figure P F σ x) := by
  unfold cl_figure
  by_cases c1 : mp_in x 0 (nI P - 1) = 0
  · rw [if_pos c1]
    exact Or.inl ⟨rfl, iX4_figure l D d L σ A w L2 hwA hl0 x (by rw [hok.hP]; exact mp_outn (by have := hok.1; omega) c1)⟩
  · rw [if_neg c1]
    obtain ⟨q, hq, rfl⟩ := mp_in_ix (by have := hok.1; omega) c1
    rw [show (nI q).toNatClampNeg = q from nI_clamp (by have := hok.1; omega)]
    by_cases c2 : nI F = 8
    · rw [if_pos c2]
      exact Or.inr (Or.inl ⟨rfl, uX4_figure_1 l D d L σ A w L2 hwA hl0 P F R hok (nI_inj (by have := hok.2.1; omega) (by decide) (c2 : nI F = nI 8)) q hq⟩)
    · rw [if_neg c2]
      exact Or.inr (Or.inr ⟨rfl, _, kX4_figure l D d L σ A w L2 hwA P F R hok (nI_not hok.2.1 (c2 : ¬ nI F = nI 8)) q hq, fun _ _ h => h⟩)
theorem oX4_work (l : Launch) (D : va_G) (d : hs_Dm) (L : hs_Lo) (σ : hs_St) (A : Nat → Prop) (w : Nat) (L2 : hs_Lo) (hwA : ¬ A w) (hl0 : l.stackTraces = false) (P F R : Nat) (hok : hs_ok P F R σ) (x y : Int32) : wo_T l yX4_work wsX4_work D d w L L2 σ A [.ref w, .int x, .int y] (cl_work F σ x y) 1 "java/lang/IndexOutOfBoundsException" ∨ wo_T l yX4_work wsX4_work D d w L L2 σ A [.ref w, .int x, .int y] (cl_work F σ x y) 2 "java/lang/IllegalArgumentException" ∨ wo_T l yX4_work wsX4_work D d w L L2 σ A [.ref w, .int x, .int y] (cl_work F σ x y) 3 "java/lang/IllegalStateException" ∨ wo_O l yX4_work wsX4_work ({ frames := 2, cells := 0, slots := 0, locals := 45 }) D d w L L2 σ A [.ref w, .int x, .int y] (cl_work F σ x y) := by
  unfold cl_work
  by_cases c1 : mp_in x 0 (nI F - 1) = 0
  · rw [if_pos c1]
    exact Or.inl ⟨rfl, iX4_work l D d L σ A w L2 hwA hl0 x (by rw [hok.hF]; exact mp_outn (by have := hok.2.1; omega) c1) y⟩
  · rw [if_neg c1]
    obtain ⟨f, hf, rfl⟩ := mp_in_ix (by have := hok.2.1; omega) c1
    rw [show (nI f).toNatClampNeg = f from nI_clamp (by have := hok.2.1; omega)]
    by_cases c2 : mp_in y 0 9 = 0
    · rw [if_pos c2]
      exact Or.inr (Or.inl ⟨rfl, uX4_work_1 l D d L σ A w L2 hwA hl0 P F R hok f hf y (mp_out c2)⟩)
    · rw [if_neg c2]
      obtain ⟨a0, a9⟩ := mp_inn c2
      by_cases c3 : 6 ≤ σ 9 f 2 ∨ σ 9 f 7 = 7 ∨ 12 < sp_hands σ F - σ 9 f 4 + y
      · rw [if_pos c3]
        exact Or.inr (Or.inr (Or.inl ⟨rfl, uX4_work_2 l D d L σ A w L2 hwA hl0 P F R hok f hf y a0 a9 c3⟩))
      · rw [if_neg c3]
        exact Or.inr (Or.inr (Or.inr ⟨rfl, _, kX4_work l D d L σ A w L2 hwA P F R hok f hf y a0 a9 (fun z => c3 (Or.inl z)) (fun z => c3 (Or.inr (Or.inl z))) (fun z => c3 (Or.inr (Or.inr z))), fun _ _ h => h⟩))
theorem oX4_mend (l : Launch) (D : va_G) (d : hs_Dm) (L : hs_Lo) (σ : hs_St) (A : Nat → Prop) (w : Nat) (L2 : hs_Lo) (hwA : ¬ A w) (hl0 : l.stackTraces = false) (P F R : Nat) (hok : hs_ok P F R σ) (x : Int32) : wo_T l yX4_mend wsX4_mend D d w L L2 σ A [.ref w, .int x] (cl_mend F σ x) 1 "java/lang/IndexOutOfBoundsException" ∨ wo_T l yX4_mend wsX4_mend D d w L L2 σ A [.ref w, .int x] (cl_mend F σ x) 2 "java/lang/IllegalStateException" ∨ wo_O l yX4_mend wsX4_mend ({ frames := 2, cells := 0, slots := 0, locals := 60 }) D d w L L2 σ A [.ref w, .int x] (cl_mend F σ x) := by
  unfold cl_mend
  by_cases c1 : mp_in x 0 (nI F - 1) = 0
  · rw [if_pos c1]
    exact Or.inl ⟨rfl, iX4_mend1 l D d L σ A w L2 hwA hl0 x (by rw [hok.hF]; exact mp_outn (by have := hok.2.1; omega) c1)⟩
  · rw [if_neg c1]
    obtain ⟨f, hf, rfl⟩ := mp_in_ix (by have := hok.2.1; omega) c1
    rw [show (nI f).toNatClampNeg = f from nI_clamp (by have := hok.2.1; omega)]
    by_cases c2 : sp_isReady σ f = 0
    · rw [if_pos c2]
      exact Or.inr (Or.inl ⟨rfl, uX4_mend_1 l D d L σ A w L2 hwA hl0 P F R hok f hf c2⟩)
    · rw [if_neg c2]
      exact Or.inr (Or.inr ⟨rfl, _, kX4_mend l D d L σ A w L2 hwA P F R hok f hf c2, fun _ _ h => h⟩)
theorem oX4_melt (l : Launch) (D : va_G) (d : hs_Dm) (L : hs_Lo) (σ : hs_St) (A : Nat → Prop) (w : Nat) (L2 : hs_Lo) (hwA : ¬ A w) (hl0 : l.stackTraces = false) (P F R : Nat) (hok : hs_ok P F R σ) (x : Int32) : wo_T l yX4_melt wsX4_melt D d w L L2 σ A [.ref w, .int x] (cl_melt F σ x) 1 "java/lang/IndexOutOfBoundsException" ∨ wo_T l yX4_melt wsX4_melt D d w L L2 σ A [.ref w, .int x] (cl_melt F σ x) 2 "java/lang/IllegalStateException" ∨ wo_O l yX4_melt wsX4_melt ({ frames := 2, cells := 0, slots := 0, locals := 60 }) D d w L L2 σ A [.ref w, .int x] (cl_melt F σ x) := by
  unfold cl_melt
  by_cases c1 : mp_in x 0 (nI F - 1) = 0
  · rw [if_pos c1]
    exact Or.inl ⟨rfl, iX4_melt l D d L σ A w L2 hwA hl0 x (by rw [hok.hF]; exact mp_outn (by have := hok.2.1; omega) c1)⟩
  · rw [if_neg c1]
    obtain ⟨f, hf, rfl⟩ := mp_in_ix (by have := hok.2.1; omega) c1
    rw [show (nI f).toNatClampNeg = f from nI_clamp (by have := hok.2.1; omega)]
    by_cases c2 : ¬ σ 9 f 7 = 5
    · rw [if_pos c2]
      exact Or.inr (Or.inl ⟨rfl, uX4_melt_1 l D d L σ A w L2 hwA hl0 P F R hok f hf c2⟩)
    · rw [if_neg c2]
      exact Or.inr (Or.inr ⟨rfl, _, kX4_melt l D d L σ A w L2 hwA P F R hok f hf (Classical.byContradiction c2), fun _ _ h => h⟩)
theorem oX4_tour (l : Launch) (D : va_G) (d : hs_Dm) (L : hs_Lo) (σ : hs_St) (A : Nat → Prop) (w : Nat) (L2 : hs_Lo) (hwA : ¬ A w) (hl0 : l.stackTraces = false) (P F R : Nat) (hok : hs_ok P F R σ) (x y z : Int32) : wo_T l yX4_tour wsX4_tour D d w L L2 σ A [.ref w, .int x, .int y, .int z] (cl_tour F σ x y z) 1 "java/lang/IndexOutOfBoundsException" ∨ wo_T l yX4_tour wsX4_tour D d w L L2 σ A [.ref w, .int x, .int y, .int z] (cl_tour F σ x y z) 2 "java/lang/IllegalArgumentException" ∨ wo_T l yX4_tour wsX4_tour D d w L L2 σ A [.ref w, .int x, .int y, .int z] (cl_tour F σ x y z) 3 "java/lang/IllegalStateException" ∨ wo_O l yX4_tour wsX4_tour ({ frames := 3, cells := 0, slots := 0, locals := 80 }) D d w L L2 σ A [.ref w, .int x, .int y, .int z] (cl_tour F σ x y z) := by
  unfold cl_tour
  by_cases c1 : mp_in x 0 (nI F - 1) = 0
  · rw [if_pos c1]
    exact Or.inl ⟨rfl, iX4_tour l D d L σ A w L2 hwA hl0 x (by rw [hok.hF]; exact mp_outn (by have := hok.2.1; omega) c1) y z⟩
  · rw [if_neg c1]
    obtain ⟨f, hf, rfl⟩ := mp_in_ix (by have := hok.2.1; omega) c1
    rw [show (nI f).toNatClampNeg = f from nI_clamp (by have := hok.2.1; omega)]
    by_cases c2 : mp_in y 1 2 = 0
    · rw [if_pos c2]
      exact Or.inr (Or.inl ⟨rfl, uX4_tour_1 l D d L σ A w L2 hwA hl0 P F R hok f hf y z (mp_out c2)⟩)
    · rw [if_neg c2]
      obtain ⟨a0, a9⟩ := mp_inn c2
      by_cases c3 : mp_in z 1 60 = 0
      · rw [if_pos c3]
        exact Or.inr (Or.inl ⟨rfl, uX4_tour_2 l D d L σ A w L2 hwA hl0 P F R hok f hf y z a0 a9 (mp_out c3)⟩)
      · rw [if_neg c3]
        obtain ⟨b0, b9⟩ := mp_inn c3
        by_cases c4 : sp_isReady σ f = 0 ∨ σ 4 (σ 9 f 0).toNatClampNeg 5 = 0
        · rw [if_pos c4]
          exact Or.inr (Or.inr (Or.inl ⟨rfl, uX4_tour_3 l D d L σ A w L2 hwA hl0 P F R hok f hf y z a0 a9 b0 b9 c4⟩))
        · rw [if_neg c4]
          exact Or.inr (Or.inr (Or.inr ⟨rfl, _, kX4_tour l D d L σ A w L2 hwA P F R hok f hf y z a0 a9 b0 b9 (fun z => c4 (Or.inl z)) (fun z => c4 (Or.inr z)), fun _ _ h => ⟨by rw [h.1]; exact h.2, h.1⟩⟩))
theorem oX4_room (l : Launch) (D : va_G) (d : hs_Dm) (L : hs_Lo) (σ : hs_St) (A : Nat → Prop) (w : Nat) (L2 : hs_Lo) (hwA : ¬ A w) (hl0 : l.stackTraces = false) (P F R : Nat) (hok : hs_ok P F R σ) (x y : Int32) : wo_T l yX4_room wsX4_room D d w L L2 σ A [.ref w, .int x, .int y] (cl_room R σ x y) 1 "java/lang/IllegalArgumentException" ∨ wo_T l yX4_room wsX4_room D d w L L2 σ A [.ref w, .int x, .int y] (cl_room R σ x y) 2 "java/lang/IllegalStateException" ∨ wo_O l yX4_room wsX4_room ({ frames := 3, cells := 0, slots := 0, locals := 68 }) D d w L L2 σ A [.ref w, .int x, .int y] (cl_room R σ x y) := by
  unfold cl_room
  by_cases c1 : mp_in x 0 9 = 0
  · rw [if_pos c1]
    exact Or.inl ⟨rfl, aX4_room_0 l D d L σ A w L2 hwA hl0 x y (mp_out c1)⟩
  · rw [if_neg c1]
    obtain ⟨a0, a9⟩ := mp_inn c1
    by_cases c2 : mp_in y 1 4 = 0
    · rw [if_pos c2]
      exact Or.inl ⟨rfl, aX4_room_1 l D d L σ A w L2 hwA hl0 x y a0 a9 (mp_out c2)⟩
    · rw [if_neg c2]
      obtain ⟨b0, b9⟩ := mp_inn c2
      by_cases c3 : nI R = 5
      · rw [if_pos c3]
        exact Or.inr (Or.inl ⟨rfl, uX4_room_1 l D d L σ A w L2 hwA hl0 P F R hok (nI_inj (by have := hok.2.2.1; omega) (by decide) (c3 : nI R = nI 5)) x y a0 a9 b0 b9⟩)
      · rw [if_neg c3]
        exact Or.inr (Or.inr ⟨rfl, _, kX4_room l D d L σ A w L2 hwA P F R hok (nI_not hok.2.2.1 (c3 : ¬ nI R = nI 5)) x y a0 a9 b0 b9, fun _ _ h => h⟩)
theorem oX4_lamps (l : Launch) (D : va_G) (d : hs_Dm) (L : hs_Lo) (σ : hs_St) (A : Nat → Prop) (w : Nat) (L2 : hs_Lo) (hwA : ¬ A w) (hl0 : l.stackTraces = false) (P F R : Nat) (hok : hs_ok P F R σ) (x y : Int32) : wo_T l yX4_lamps wsX4_lamps D d w L L2 σ A [.ref w, .int x, .int y] (cl_lamps R σ x y) 1 "java/lang/IndexOutOfBoundsException" ∨ wo_T l yX4_lamps wsX4_lamps D d w L L2 σ A [.ref w, .int x, .int y] (cl_lamps R σ x y) 2 "java/lang/IllegalArgumentException" ∨ wo_O l yX4_lamps wsX4_lamps ({ frames := 2, cells := 0, slots := 0, locals := 60 }) D d w L L2 σ A [.ref w, .int x, .int y] (cl_lamps R σ x y) := by
  unfold cl_lamps
  by_cases c1 : mp_in x 0 (nI R - 1) = 0
  · rw [if_pos c1]
    exact Or.inl ⟨rfl, iX4_lamps l D d L σ A w L2 hwA hl0 x (by rw [hok.hR]; exact mp_outn (by have := hok.2.2.1; omega) c1) y⟩
  · rw [if_neg c1]
    obtain ⟨r, hr5, rfl⟩ := mp_in_ix (by have := hok.2.2.1; omega) c1
    rw [show (nI r).toNatClampNeg = r from nI_clamp (by have := hok.2.2.1; omega)]
    by_cases c2 : mp_in y 0 9 = 0
    · rw [if_pos c2]
      exact Or.inr (Or.inl ⟨rfl, uX4_lamps_1 l D d L σ A w L2 hwA hl0 P F R hok r hr5 y (mp_out c2)⟩)
    · rw [if_neg c2]
      obtain ⟨a0, a9⟩ := mp_inn c2
      exact Or.inr (Or.inr ⟨rfl, _, kX4_lamps l D d L σ A w L2 hwA P F R hok r hr5 y a0 a9, fun _ _ h => h⟩)
theorem oX4_show (l : Launch) (D : va_G) (d : hs_Dm) (L : hs_Lo) (σ : hs_St) (A : Nat → Prop) (w : Nat) (L2 : hs_Lo) (hwA : ¬ A w) (hl0 : l.stackTraces = false) (P F R : Nat) (hok : hs_ok P F R σ) (x y : Int32) : wo_T l yX4_show wsX4_show D d w L L2 σ A [.ref w, .int x, .int y] (cl_show F R σ x y) 1 "java/lang/IndexOutOfBoundsException" ∨ wo_T l yX4_show wsX4_show D d w L L2 σ A [.ref w, .int x, .int y] (cl_show F R σ x y) 2 "java/lang/IllegalStateException" ∨ wo_O l yX4_show wsX4_show ({ frames := 4, cells := 0, slots := 0, locals := 90 }) D d w L L2 σ A [.ref w, .int x, .int y] (cl_show F R σ x y) := by
  unfold cl_show
  by_cases c1 : mp_in x 0 (nI F - 1) = 0
  · rw [if_pos c1]
    exact Or.inl ⟨rfl, iX4_show l D d L σ A w L2 hwA hl0 x (by rw [hok.hF]; exact mp_outn (by have := hok.2.1; omega) c1) y⟩
  · rw [if_neg c1]
    obtain ⟨f, hf, rfl⟩ := mp_in_ix (by have := hok.2.1; omega) c1
    rw [show (nI f).toNatClampNeg = f from nI_clamp (by have := hok.2.1; omega)]
    by_cases c2 : mp_in y 0 (nI R - 1) = 0
    · rw [if_pos c2]
      exact Or.inl ⟨rfl, uX4_show_1 l D d L σ A w L2 hwA hl0 P F R hok f hf y (by rw [hok.hR]; exact mp_outn (by have := hok.2.2.1; omega) c2)⟩
    · rw [if_neg c2]
      obtain ⟨r, hr5, rfl⟩ := mp_in_ix (by have := hok.2.2.1; omega) c2
      rw [show (nI r).toNatClampNeg = r from nI_clamp (by have := hok.2.2.1; omega)]
      by_cases c3 : sp_isReady σ f = 0 ∨ σ 4 (σ 9 f 0).toNatClampNeg 5 = 0 ∨ sp_likeness σ f < 30 ∨ σ 10 r 1 ≤ sp_figIn σ (nI r) (nI r) F ∨ ¬ sp_shownFrom σ (σ 9 f 0).toNatClampNeg F 0 = -1
      · rw [if_pos c3]
        refine Or.inr (Or.inl ⟨rfl, ?_⟩)
        by_cases d1 : sp_isReady σ f = 0 ∨ σ 4 (σ 9 f 0).toNatClampNeg 5 = 0
        · exact uX4_show_2 l D d L σ A w L2 hwA hl0 P F R hok f hf r hr5 d1
        · by_cases d2 : sp_likeness σ f < 30
          · exact uX4_show_3 l D d L σ A w L2 hwA hl0 P F R hok f hf r hr5 (fun z => d1 (Or.inl z)) (fun z => d1 (Or.inr z)) d2
          · by_cases d3 : σ 10 r 1 ≤ sp_figIn σ (nI r) (nI r) F
            · exact uX4_show_4 l D d L σ A w L2 hwA hl0 P F R hok f hf r hr5 (fun z => d1 (Or.inl z)) (fun z => d1 (Or.inr z)) d2 d3
            · refine uX4_show_5 l D d L σ A w L2 hwA hl0 P F R hok f hf r hr5 (fun z => d1 (Or.inl z)) (fun z => d1 (Or.inr z)) d2 d3 ?_
              rcases c3 with z | z | z | z | z
              · exact absurd (Or.inl z) d1
              · exact absurd (Or.inr z) d1
              · exact absurd z d2
              · exact absurd z d3
              · exact z
      · rw [if_neg c3]
        exact Or.inr (Or.inr ⟨rfl, _, kX4_show l D d L σ A w L2 hwA P F R hok f hf r hr5 (fun z => c3 (Or.inl z)) (fun z => c3 (Or.inr (Or.inl z))) (fun z => c3 (Or.inr (Or.inr (Or.inl z)))) (fun z => c3 (Or.inr (Or.inr (Or.inr (Or.inl z))))) (Classical.byContradiction fun z => c3 (Or.inr (Or.inr (Or.inr (Or.inr z))))), fun _ _ h => ⟨by rw [h.1]; exact h.2, h.1⟩⟩)
theorem oX4_take (l : Launch) (D : va_G) (d : hs_Dm) (L : hs_Lo) (σ : hs_St) (A : Nat → Prop) (w : Nat) (L2 : hs_Lo) (hwA : ¬ A w) (hl0 : l.stackTraces = false) (P F R : Nat) (hok : hs_ok P F R σ) (x : Int32) : wo_T l yX4_take wsX4_take D d w L L2 σ A [.ref w, .int x] (cl_take F σ x) 1 "java/lang/IndexOutOfBoundsException" ∨ wo_T l yX4_take wsX4_take D d w L L2 σ A [.ref w, .int x] (cl_take F σ x) 2 "java/lang/IllegalStateException" ∨ wo_O l yX4_take wsX4_take ({ frames := 2, cells := 0, slots := 0, locals := 60 }) D d w L L2 σ A [.ref w, .int x] (cl_take F σ x) := by
  unfold cl_take
  by_cases c1 : mp_in x 0 (nI F - 1) = 0
  · rw [if_pos c1]
    exact Or.inl ⟨rfl, iX4_take l D d L σ A w L2 hwA hl0 x (by rw [hok.hF]; exact mp_outn (by have := hok.2.1; omega) c1)⟩
  · rw [if_neg c1]
    obtain ⟨f, hf, rfl⟩ := mp_in_ix (by have := hok.2.1; omega) c1
    rw [show (nI f).toNatClampNeg = f from nI_clamp (by have := hok.2.1; omega)]
    by_cases c2 : sp_isShown σ f = 0
    · rw [if_pos c2]
      exact Or.inr (Or.inl ⟨rfl, uX4_take_1 l D d L σ A w L2 hwA hl0 P F R hok f hf c2⟩)
    · rw [if_neg c2]
      exact Or.inr (Or.inr ⟨rfl, _, kX4_take l D d L σ A w L2 hwA P F R hok f hf c2, fun _ _ h => h⟩)
theorem oX4_clean (l : Launch) (D : va_G) (d : hs_Dm) (L : hs_Lo) (σ : hs_St) (A : Nat → Prop) (w : Nat) (L2 : hs_Lo) (hwA : ¬ A w) (hl0 : l.stackTraces = false) (P F R : Nat) (hok : hs_ok P F R σ) (x : Int32) : wo_T l yX4_clean wsX4_clean D d w L L2 σ A [.ref w, .int x] (cl_clean F R σ x) 1 "java/lang/IndexOutOfBoundsException" ∨ wo_O l yX4_clean wsX4_clean ({ frames := 2, cells := 0, slots := 0, locals := 60 }) D d w L L2 σ A [.ref w, .int x] (cl_clean F R σ x) := by
  unfold cl_clean
  by_cases c1 : mp_in x 0 (nI R - 1) = 0
  · rw [if_pos c1]
    exact Or.inl ⟨rfl, iX4_clean l D d L σ A w L2 hwA hl0 x (by rw [hok.hR]; exact mp_outn (by have := hok.2.2.1; omega) c1)⟩
  · rw [if_neg c1]
    obtain ⟨r, hr5, rfl⟩ := mp_in_ix (by have := hok.2.2.1; omega) c1
    exact Or.inr ⟨rfl, _, kX4_clean l D d L σ A w L2 hwA P F R hok r hr5, fun _ _ h => h⟩
theorem oX4_price (l : Launch) (D : va_G) (d : hs_Dm) (L : hs_Lo) (σ : hs_St) (A : Nat → Prop) (w : Nat) (L2 : hs_Lo) (hwA : ¬ A w) (hl0 : l.stackTraces = false) (P F R : Nat) (hok : hs_ok P F R σ) (x : Int32) : wo_T l yX4_price wsX4_price D d w L L2 σ A [.ref w, .int x] (cl_price σ x) 1 "java/lang/IllegalArgumentException" ∨ wo_O l yX4_price wsX4_price ({ frames := 1, cells := 0, slots := 0, locals := 30 }) D d w L L2 σ A [.ref w, .int x] (cl_price σ x) := by
  unfold cl_price
  by_cases c1 : mp_in x 0 20 = 0
  · rw [if_pos c1]
    exact Or.inl ⟨rfl, aX4_price_0 l D d L σ A w L2 hwA hl0 x (mp_out c1)⟩
  · rw [if_neg c1]
    obtain ⟨a0, a9⟩ := mp_inn c1
    exact Or.inr ⟨rfl, _, kX4_price l D d L σ A w L2 hwA P F R hok x a0 a9, fun _ _ h => h⟩
theorem oX4_pass (l : Launch) (D : va_G) (d : hs_Dm) (L : hs_Lo) (σ : hs_St) (A : Nat → Prop) (w : Nat) (L2 : hs_Lo) (hwA : ¬ A w) (hl0 : l.stackTraces = false) (P F R : Nat) (hok : hs_ok P F R σ) (n x z : Int32) : wo_T l yX4_pass wsX4_pass D d w L L2 σ A [.ref w, .int n, .int x, .int z] (cl_pass P F σ n x z) 1 "java/lang/IllegalArgumentException" ∨ wo_O l yX4_pass wsX4_pass ({ frames := 5, cells := 0, slots := 0, locals := 120 }) D d w L L2 σ A [.ref w, .int n, .int x, .int z] (cl_pass P F σ n x z) := by
  unfold cl_pass
  by_cases c1 : mp_in n 1 40 = 0
  · rw [if_pos c1]
    exact Or.inl ⟨rfl, aX4_pass_0 l D d L σ A w L2 hwA hl0 n x z (mp_out c1)⟩
  · rw [if_neg c1]
    obtain ⟨a0, a9⟩ := mp_inn c1
    by_cases c2 : mp_in x 0 2000 = 0
    · rw [if_pos c2]
      exact Or.inl ⟨rfl, aX4_pass_1 l D d L σ A w L2 hwA hl0 n x z a0 a9 (mp_out c2)⟩
    · rw [if_neg c2]
      obtain ⟨b0, b9⟩ := mp_inn c2
      by_cases c3 : mp_in z 0 40 = 0
      · rw [if_pos c3]
        exact Or.inl ⟨rfl, aX4_pass_2 l D d L σ A w L2 hwA hl0 n x z a0 a9 b0 b9 (mp_out c3)⟩
      · rw [if_neg c3]
        obtain ⟨e0, e9⟩ := mp_inn c3
        obtain ⟨M, hM1, hM, rfl⟩ := mp_in_1 (n := 40) (by decide) c1
        rw [show (nI M).toNatClampNeg = M from nI_clamp (by omega)]
        exact Or.inr ⟨rfl, _, kX4_pass l D d L σ A w L2 hwA P F R hok M hM1 hM x z b0 b9 e0 e9, fun _ _ h => h⟩
theorem oX4_ofPerson (l : Launch) (D : va_G) (d : hs_Dm) (L : hs_Lo) (σ : hs_St) (A : Nat → Prop) (w : Nat) (L2 : hs_Lo) (hwA : ¬ A w) (hl0 : l.stackTraces = false) (P F R : Nat) (hok : hs_ok P F R σ) (x y : Int32) : wo_T l yX4_ofPerson wsX4_ofPerson D d w L L2 σ A [.ref w, .int x, .int y] (cl_ofPerson P F σ x y) 1 "java/lang/IndexOutOfBoundsException" ∨ wo_T l yX4_ofPerson wsX4_ofPerson D d w L L2 σ A [.ref w, .int x, .int y] (cl_ofPerson P F σ x y) 2 "java/lang/IllegalArgumentException" ∨ wo_O l yX4_ofPerson wsX4_ofPerson ({ frames := 5, cells := 0, slots := 0, locals := 100 }) D d w L L2 σ A [.ref w, .int x, .int y] (cl_ofPerson P F σ x y) := by
  unfold cl_ofPerson
  by_cases c1 : mp_in x 0 (nI P - 1) = 0
  · rw [if_pos c1]
    exact Or.inl ⟨rfl, iX4_ofPerson l D d L σ A w L2 hwA hl0 x (by rw [hok.hP]; exact mp_outn (by have := hok.1; omega) c1) y⟩
  · rw [if_neg c1]
    obtain ⟨q, hq, rfl⟩ := mp_in_ix (by have := hok.1; omega) c1
    rw [show (nI q).toNatClampNeg = q from nI_clamp (by have := hok.1; omega)]
    by_cases c2 : mp_in y 0 10 = 0
    · rw [if_pos c2]
      exact Or.inr (Or.inl ⟨rfl, uX4_ofPerson_1 l D d L σ A w L2 hwA hl0 P F R hok q hq y (mp_out c2)⟩)
    · rw [if_neg c2]
      obtain ⟨j, hj, rfl⟩ := mp_in_le (n := 10) (by decide) c2
      rw [show (nI j).toNatClampNeg = j from nI_clamp (by omega)]
      exact Or.inr (Or.inr ⟨rfl, _, kX4_ofPerson l D d L σ A w L2 hwA P F R hok q hq j (by omega), fun _ _ h => h⟩)
theorem oX4_known (l : Launch) (D : va_G) (d : hs_Dm) (L : hs_Lo) (σ : hs_St) (A : Nat → Prop) (w : Nat) (L2 : hs_Lo) (hwA : ¬ A w) (hl0 : l.stackTraces = false) (P F R : Nat) (hok : hs_ok P F R σ) (x y z : Int32) (hz : z = 0 ∨ z = 1) : wo_T l yX4_known wsX4_known D d w L L2 σ A [.ref w, .int x, .int y, .int z] (cl_known P σ x y z) 1 "java/lang/IndexOutOfBoundsException" ∨ wo_O l yX4_known wsX4_known ({ frames := 2, cells := 0, slots := 0, locals := 45 }) D d w L L2 σ A [.ref w, .int x, .int y, .int z] (cl_known P σ x y z) := by
  unfold cl_known
  by_cases c1 : mp_in x 0 (nI P - 1) = 0
  · rw [if_pos c1]
    exact Or.inl ⟨rfl, iX4_known l D d L σ A w L2 hwA hl0 x (by rw [hok.hP]; exact mp_outn (by have := hok.1; omega) c1) y z⟩
  · rw [if_neg c1]
    obtain ⟨q, hq, rfl⟩ := mp_in_ix (by have := hok.1; omega) c1
    rw [show (nI q).toNatClampNeg = q from nI_clamp (by have := hok.1; omega)]
    by_cases c2 : mp_in y 0 5 = 0
    · rw [if_pos c2]
      exact Or.inl ⟨rfl, uX4_known_1 l D d L σ A w L2 hwA hl0 P F R hok q hq y z (mp_out6 c2)⟩
    · rw [if_neg c2]
      obtain ⟨j, hj, rfl⟩ := mp_in_le (n := 5) (by decide) c2
      rw [show (nI j).toNatClampNeg = j from nI_clamp (by omega)]
      rcases hz with rfl | rfl
      · rw [if_pos rfl]
        exact Or.inr ⟨rfl, _, kX4_known_0 l D d L σ A w L2 hwA P F R hok q hq j (by omega), fun _ _ h => h⟩
      · rw [if_neg (by decide)]
        exact Or.inr ⟨rfl, _, kX4_known_1 l D d L σ A w L2 hwA P F R hok q hq j (by omega), fun _ _ h => h⟩
theorem oX4_ofFigure (l : Launch) (D : va_G) (d : hs_Dm) (L : hs_Lo) (σ : hs_St) (A : Nat → Prop) (w : Nat) (L2 : hs_Lo) (hwA : ¬ A w) (hl0 : l.stackTraces = false) (P F R : Nat) (hok : hs_ok P F R σ) (x y : Int32) : wo_T l yX4_ofFigure wsX4_ofFigure D d w L L2 σ A [.ref w, .int x, .int y] (cl_ofFigure F σ x y) 1 "java/lang/IndexOutOfBoundsException" ∨ wo_T l yX4_ofFigure wsX4_ofFigure D d w L L2 σ A [.ref w, .int x, .int y] (cl_ofFigure F σ x y) 2 "java/lang/IllegalArgumentException" ∨ wo_O l yX4_ofFigure wsX4_ofFigure ({ frames := 5, cells := 0, slots := 0, locals := 100 }) D d w L L2 σ A [.ref w, .int x, .int y] (cl_ofFigure F σ x y) := by
  unfold cl_ofFigure
  by_cases c1 : mp_in x 0 (nI F - 1) = 0
  · rw [if_pos c1]
    exact Or.inl ⟨rfl, iX4_ofFigure l D d L σ A w L2 hwA hl0 x (by rw [hok.hF]; exact mp_outn (by have := hok.2.1; omega) c1) y⟩
  · rw [if_neg c1]
    obtain ⟨f, hf, rfl⟩ := mp_in_ix (by have := hok.2.1; omega) c1
    rw [show (nI f).toNatClampNeg = f from nI_clamp (by have := hok.2.1; omega)]
    by_cases c2 : mp_in y 0 11 = 0
    · rw [if_pos c2]
      exact Or.inr (Or.inl ⟨rfl, uX4_ofFigure_1 l D d L σ A w L2 hwA hl0 P F R hok f hf y (mp_out c2)⟩)
    · rw [if_neg c2]
      obtain ⟨j, hj, rfl⟩ := mp_in_le (n := 11) (by decide) c2
      rw [show (nI j).toNatClampNeg = j from nI_clamp (by omega)]
      exact Or.inr (Or.inr ⟨rfl, _, kX4_ofFigure l D d L σ A w L2 hwA P F R hok f hf j (by omega), fun _ _ h => h⟩)
theorem oX4_ofRoom (l : Launch) (D : va_G) (d : hs_Dm) (L : hs_Lo) (σ : hs_St) (A : Nat → Prop) (w : Nat) (L2 : hs_Lo) (hwA : ¬ A w) (hl0 : l.stackTraces = false) (P F R : Nat) (hok : hs_ok P F R σ) (x y : Int32) : wo_T l yX4_ofRoom wsX4_ofRoom D d w L L2 σ A [.ref w, .int x, .int y] (cl_ofRoom F R σ x y) 1 "java/lang/IndexOutOfBoundsException" ∨ wo_T l yX4_ofRoom wsX4_ofRoom D d w L L2 σ A [.ref w, .int x, .int y] (cl_ofRoom F R σ x y) 2 "java/lang/IllegalArgumentException" ∨ wo_O l yX4_ofRoom wsX4_ofRoom ({ frames := 5, cells := 0, slots := 0, locals := 100 }) D d w L L2 σ A [.ref w, .int x, .int y] (cl_ofRoom F R σ x y) := by
  unfold cl_ofRoom
  by_cases c1 : mp_in x 0 (nI R - 1) = 0
  · rw [if_pos c1]
    exact Or.inl ⟨rfl, iX4_ofRoom l D d L σ A w L2 hwA hl0 x (by rw [hok.hR]; exact mp_outn (by have := hok.2.2.1; omega) c1) y⟩
  · rw [if_neg c1]
    obtain ⟨r, hr5, rfl⟩ := mp_in_ix (by have := hok.2.2.1; omega) c1
    rw [show (nI r).toNatClampNeg = r from nI_clamp (by have := hok.2.2.1; omega)]
    by_cases c2 : mp_in y 0 3 = 0
    · rw [if_pos c2]
      exact Or.inr (Or.inl ⟨rfl, uX4_ofRoom_1 l D d L σ A w L2 hwA hl0 P F R hok r hr5 y (mp_out c2)⟩)
    · rw [if_neg c2]
      obtain ⟨j, hj, rfl⟩ := mp_in_le (n := 3) (by decide) c2
      rw [show (nI j).toNatClampNeg = j from nI_clamp (by omega)]
      exact Or.inr (Or.inr ⟨rfl, _, kX4_ofRoom l D d L σ A w L2 hwA P F R hok r hr5 j (by omega), fun _ _ h => h⟩)
theorem oX4_many (l : Launch) (D : va_G) (d : hs_Dm) (L : hs_Lo) (σ : hs_St) (A : Nat → Prop) (w : Nat) (L2 : hs_Lo) (hwA : ¬ A w) (hl0 : l.stackTraces = false) (P F R : Nat) (hok : hs_ok P F R σ) (x : Int32) : wo_T l yX4_many wsX4_many D d w L L2 σ A [.ref w, .int x] (cl_many P F σ x) 1 "java/lang/IllegalArgumentException" ∨ wo_O l yX4_many wsX4_many ({ frames := 5, cells := 0, slots := 0, locals := 100 }) D d w L L2 σ A [.ref w, .int x] (cl_many P F σ x) := by
  unfold cl_many
  by_cases c1 : mp_in x 0 14 = 0
  · rw [if_pos c1]
    exact Or.inl ⟨rfl, aX4_many_0 l D d L σ A w L2 hwA hl0 x (mp_out c1)⟩
  · rw [if_neg c1]
    obtain ⟨j, hj, rfl⟩ := mp_in_le (n := 14) (by decide) c1
    rw [show (nI j).toNatClampNeg = j from nI_clamp (by omega)]
    exact Or.inr ⟨rfl, _, kX4_many l D d L σ A w L2 hwA P F R hok j (by omega), fun _ _ h => h⟩
theorem oX4_wouldFame (l : Launch) (D : va_G) (d : hs_Dm) (L : hs_Lo) (σ : hs_St) (A : Nat → Prop) (w : Nat) (L2 : hs_Lo) (hwA : ¬ A w) (hl0 : l.stackTraces = false) (P F R : Nat) (hok : hs_ok P F R σ) (x y z : Int32) : wo_T l yX4_wouldFame wsX4_wouldFame D d w L L2 σ A [.ref w, .int x, .int y, .int z] (cl_wouldFame P σ x y z) 1 "java/lang/IndexOutOfBoundsException" ∨ wo_T l yX4_wouldFame wsX4_wouldFame D d w L L2 σ A [.ref w, .int x, .int y, .int z] (cl_wouldFame P σ x y z) 2 "java/lang/IllegalArgumentException" ∨ wo_O l yX4_wouldFame wsX4_wouldFame ({ frames := 2, cells := 0, slots := 0, locals := 50 }) D d w L L2 σ A [.ref w, .int x, .int y, .int z] (cl_wouldFame P σ x y z) := by
  unfold cl_wouldFame
  by_cases c1 : mp_in x 0 (nI P - 1) = 0
  · rw [if_pos c1]
    exact Or.inl ⟨rfl, iX4_wouldFame l D d L σ A w L2 hwA hl0 x (by rw [hok.hP]; exact mp_outn (by have := hok.1; omega) c1) y z⟩
  · rw [if_neg c1]
    obtain ⟨q, hq, rfl⟩ := mp_in_ix (by have := hok.1; omega) c1
    rw [show (nI q).toNatClampNeg = q from nI_clamp (by have := hok.1; omega)]
    by_cases c2 : mp_in y 0 2 = 0
    · rw [if_pos c2]
      exact Or.inl ⟨rfl, uX4_wouldFame_1 l D d L σ A w L2 hwA hl0 P F R hok q hq y z (mp_out3 c2)⟩
    · rw [if_neg c2]
      obtain ⟨j, hj, rfl⟩ := mp_in_le (n := 2) (by decide) c2
      rw [show (nI j).toNatClampNeg = j from nI_clamp (by omega)]
      by_cases c3 : mp_in z 0 60 = 0
      · rw [if_pos c3]
        exact Or.inr (Or.inl ⟨rfl, uX4_wouldFame_2 l D d L σ A w L2 hwA hl0 P F R hok q hq j (by omega) z (mp_out c3)⟩)
      · rw [if_neg c3]
        obtain ⟨M, hM, rfl⟩ := mp_in_le (n := 60) (by decide) c3
        rw [show (nI M).toNatClampNeg = M from nI_clamp (by omega)]
        exact Or.inr (Or.inr ⟨rfl, _, kX4_wouldFame l D d L σ A w L2 hwA P F R hok q hq j (by omega) M hM, fun _ _ h => h⟩)
theorem oX4_readyIn (l : Launch) (D : va_G) (d : hs_Dm) (L : hs_Lo) (σ : hs_St) (A : Nat → Prop) (w : Nat) (L2 : hs_Lo) (hwA : ¬ A w) (hl0 : l.stackTraces = false) (P F R : Nat) (hok : hs_ok P F R σ) (x : Int32) : wo_T l yX4_readyIn wsX4_readyIn D d w L L2 σ A [.ref w, .int x] (cl_readyIn F σ x) 1 "java/lang/IndexOutOfBoundsException" ∨ wo_O l yX4_readyIn wsX4_readyIn ({ frames := 2, cells := 0, slots := 0, locals := 50 }) D d w L L2 σ A [.ref w, .int x] (cl_readyIn F σ x) := by
  unfold cl_readyIn
  by_cases c1 : mp_in x 0 (nI F - 1) = 0
  · rw [if_pos c1]
    exact Or.inl ⟨rfl, iX4_readyIn l D d L σ A w L2 hwA hl0 x (by rw [hok.hF]; exact mp_outn (by have := hok.2.1; omega) c1)⟩
  · rw [if_neg c1]
    obtain ⟨f, hf, rfl⟩ := mp_in_ix (by have := hok.2.1; omega) c1
    rw [show (nI f).toNatClampNeg = f from nI_clamp (by have := hok.2.1; omega)]
    exact Or.inr ⟨rfl, _, kX4_readyIn l D d L σ A w L2 hwA P F R hok f hf, fun _ _ h => h⟩
theorem oX4_swap (l : Launch) (D : va_G) (d : hs_Dm) (L : hs_Lo) (σ : hs_St) (A : Nat → Prop) (w : Nat) (L2 : hs_Lo) (hwA : ¬ A w) (hl0 : l.stackTraces = false) (P F R : Nat) (hok : hs_ok P F R σ) (x y : Int32) : wo_T l yX4_swap wsX4_swap D d w L L2 σ A [.ref w, .int x, .int y] (cl_swap F σ x y) 1 "java/lang/IndexOutOfBoundsException" ∨ ((cl_swap F σ x y) = (2, 0, σ) ∧ wx_Ts l yX4_swap wsX4_swap ({ frames := 8, cells := 1, slots := 6, locals := 150 }) D d w L L2 σ A [.ref w, .int x, .int y] "java/lang/IllegalArgumentException") ∨ wo_T l yX4_swap wsX4_swap D d w L L2 σ A [.ref w, .int x, .int y] (cl_swap F σ x y) 3 "java/lang/IllegalStateException" ∨ wo_O l yX4_swap wsX4_swap ({ frames := 3, cells := 0, slots := 0, locals := 80 }) D d w L L2 σ A [.ref w, .int x, .int y] (cl_swap F σ x y) := by
  unfold cl_swap
  by_cases c1 : mp_in x 0 (nI F - 1) = 0
  · rw [if_pos c1]
    exact Or.inl ⟨rfl, iX4_swap l D d L σ A w L2 hwA hl0 x (by rw [hok.hF]; exact mp_outn (by have := hok.2.1; omega) c1) y⟩
  · rw [if_neg c1]
    obtain ⟨f, hf, rfl⟩ := mp_in_ix (by have := hok.2.1; omega) c1
    rw [show (nI f).toNatClampNeg = f from nI_clamp (by have := hok.2.1; omega)]
    by_cases c2 : mp_in y 0 (nI F - 1) = 0
    · rw [if_pos c2]
      exact Or.inl ⟨rfl, uX4_swap_1 l D d L σ A w L2 hwA hl0 P F R hok f hf y (by rw [hok.hF]; exact mp_outn (by have := hok.2.1; omega) c2)⟩
    · rw [if_neg c2]
      obtain ⟨g, hg, rfl⟩ := mp_in_ix (by have := hok.2.1; omega) c2
      rw [show (nI g).toNatClampNeg = g from nI_clamp (by have := hok.2.1; omega)]
      by_cases c3 : nI f = nI g
      · rw [if_pos c3, ← c3]
        exact Or.inr (Or.inl ⟨rfl, uX4_swap_2 l D d L σ A w L2 hwA hl0 P F R hok f hf⟩)
      · rw [if_neg c3]
        have hgf : ¬ g = f := fun z => c3 (by rw [z])
        by_cases c4 : sp_isReady σ f = 0 ∨ sp_isReady σ g = 0
        · rw [if_pos c4]
          exact Or.inr (Or.inr (Or.inl ⟨rfl, uX4_swap_3 l D d L σ A w L2 hwA hl0 P F R hok f hf g hg hgf c4⟩))
        · rw [if_neg c4]
          exact Or.inr (Or.inr (Or.inr ⟨rfl, _, kX4_swap l D d L σ A w L2 hwA P F R hok f hf g hg hgf (fun z => c4 (Or.inl z)) (fun z => c4 (Or.inr z)), fun _ _ h => ⟨by rw [h.1]; exact h.2, h.1⟩⟩))
theorem oX4_meltsIn (l : Launch) (D : va_G) (d : hs_Dm) (L : hs_Lo) (σ : hs_St) (A : Nat → Prop) (w : Nat) (L2 : hs_Lo) (A2 : Nat → Prop) (hdis : ∀ q, A2 q → ¬ A q) (hwB : ¬ tw_A A A2 w) (hl0 : l.stackTraces = false) (P F R : Nat) (hok : hs_ok P F R σ) (σ2 : hs_St) (hliv : ∀ f, f < F → (σ 9 f 0).toNatClampNeg < P ∧ (σ 9 f 1).toNatClampNeg < P) (hcb : ∀ q, q < 10 → σ 4 q 5 = 0 ∨ σ 4 q 5 = 1) {P2 F2 R2 : Nat} (hok2 : hs_ok P2 F2 R2 σ2) (hR2 : R2 ≤ R) (x y z : Int32) : wo_T l yX4_meltsIn wsX4_meltsIn D d w L L2 σ A [.ref w, .int x, .int y, .int z] (cl_meltsIn P F R σ σ2 x y z) 1 "java/lang/IndexOutOfBoundsException" ∨ wo_T l yX4_meltsIn wsX4_meltsIn D d w L L2 σ A [.ref w, .int x, .int y, .int z] (cl_meltsIn P F R σ σ2 x y z) 2 "java/lang/IllegalArgumentException" ∨ ((cl_meltsIn P F R σ σ2 x y z).1 = 0 ∧ (cl_meltsIn P F R σ σ2 x y z).2.2 = σ ∧ ∃ post, tw_Mi l yX4_meltsIn wsX4_meltsIn ({ frames := 6, cells := 0, slots := 0, locals := 140 }) D d w L σ A L2 σ2 A2 [.ref w, .int x, .int y, .int z] post ∧ ∀ r τ, post r τ → (cl_meltsIn P F R σ σ2 x y z).2.1 = r ∧ ∃ f, f < F ∧ (sp_mIn σ σ2 P F R f y z).2 = τ) := by
  unfold cl_meltsIn
  by_cases c1 : mp_in x 0 (nI F - 1) = 0
  · rw [if_pos c1]
    exact Or.inl ⟨rfl, iX4_meltsIn l D d L σ A w L2 (fun z => hwB (Or.inl z)) hl0 x (by rw [hok.hF]; exact mp_outn (by have := hok.2.1; omega) c1) y z⟩
  · rw [if_neg c1]
    obtain ⟨f, hf, rfl⟩ := mp_in_ix (by have := hok.2.1; omega) c1
    rw [show (nI f).toNatClampNeg = f from nI_clamp (by have := hok.2.1; omega)]
    by_cases c2 : mp_in y 0 2000 = 0
    · rw [if_pos c2]
      exact Or.inr (Or.inl ⟨rfl, uX4_meltsIn_1 l D d L σ A w L2 (fun z => hwB (Or.inl z)) hl0 P F R hok f hf y z (mp_out c2)⟩)
    · rw [if_neg c2]
      obtain ⟨a0, a9⟩ := mp_inn c2
      by_cases c3 : mp_in z 0 40 = 0
      · rw [if_pos c3]
        exact Or.inr (Or.inl ⟨rfl, uX4_meltsIn_2 l D d L σ A w L2 (fun z => hwB (Or.inl z)) hl0 P F R hok f hf y z a0 a9 (mp_out c3)⟩)
      · rw [if_neg c3]
        obtain ⟨b0, b9⟩ := mp_inn c3
        exact Or.inr (Or.inr ⟨rfl, rfl, _, kX4_meltsIn l D d L σ A w L2 A2 hdis hwB P F R hok σ2 f hf y z a0 a9 b0 b9 hliv hcb hok2 hR2, fun r τ h => ⟨by rw [h], f, hf, by rw [h]⟩⟩)
