/-! SIDE BY SIDE: each call -/
abbrev cl_X : Type := Int32 × Int32 × hs_St
theorem sgv {σ : hs_St} {k i j j' : Nat} {v : Int32} : hs_sg σ k i j v k i j' = if j' = j then v else σ k i j' := by
  rw [pc9]
  by_cases e : j' = j
  · rw [if_pos ⟨rfl, rfl, e⟩, if_pos e]
  · rw [if_neg (fun z => e z.2.2), if_neg e]
theorem mp_in_I {x lo hi : Int32} (h : ¬ mp_in x lo hi = 0) : I_ x lo.toInt hi.toInt := by
  unfold mp_in at h
  by_cases a : x < lo
  · rw [if_pos a] at h
    exact absurd rfl h
  · rw [if_neg a] at h
    by_cases b : hi < x
    · rw [if_pos b] at h
      exact absurd rfl h
    · rw [tI_lt] at a b
      exact ⟨by omega, by omega⟩
def sim (R N : Nat) (c : cl_X) (b : Int32) (X : mm_X) : Prop := c.1 = X.1 ∧ (c.1 = 0 → c.2.1 = b) ∧ ∃ P' F' R', R ≤ R' ∧ mr P' F' R' (N + 1) c.2.2 X.2
section SIM
variable {P F R N q f : Nat} {σ ρ σ' ρ' : hs_St} {b : Int32} {X : mm_X}
theorem sim_err (h : mr P F R N σ ρ) (k : Int32) (hk : ¬ k = 0) (hX : k = X.1 ∧ ρ = X.2) : sim R N (k, 0, σ) b X := ⟨hX.1, fun z => absurd z hk, P, F, R, Nat.le_refl _, by rw [← hX.2]; exact h.up (by omega)⟩
theorem sim_ok {P' F' R' : Nat} {r : Int32} (h : mr P' F' R' (N + 1) σ' ρ') (hR : R ≤ R') (hr : r = b) (hX : (0 : Int32) = X.1 ∧ ρ' = X.2) : sim R N (0, r, σ') b X := ⟨hX.1, fun _ => hr, P', F', R', hR, by rw [← hX.2]; exact h⟩
theorem rF.hands {a b a2 b2 : Nat → Int32} {v : Int32} (h : rF P R a b) (ha : ∀ i, a2 i = if i = 4 then v else a i) (hb : ∀ i, b2 i = if i = 4 then v else b i) (hv : I_ v 0 9) (h2 : ¬ a 2 = 6) (h7 : ¬ a 7 = 7) : rF P R a2 b2 := by
  have p0 : a2 0 = a 0 := by rw [ha, if_neg (by decide)]
  have p1 : a2 1 = a 1 := by rw [ha, if_neg (by decide)]
  have p2 : a2 2 = a 2 := by rw [ha, if_neg (by decide)]
  have p3 : a2 3 = a 3 := by rw [ha, if_neg (by decide)]
  have p4 : a2 4 = v := by rw [ha, if_pos rfl]
  have p5 : a2 5 = a 5 := by rw [ha, if_neg (by decide)]
  have p6 : a2 6 = a 6 := by rw [ha, if_neg (by decide)]
  have p7 : a2 7 = a 7 := by rw [ha, if_neg (by decide)]
  have p8 : a2 8 = a 8 := by rw [ha, if_neg (by decide)]
  have p9 : a2 9 = a 9 := by rw [ha, if_neg (by decide)]
  have p10 : a2 10 = a 10 := by rw [ha, if_neg (by decide)]
  have q0 : b2 0 = b 0 := by rw [hb, if_neg (by decide)]
  have q1 : b2 1 = b 1 := by rw [hb, if_neg (by decide)]
  have q2 : b2 2 = b 2 := by rw [hb, if_neg (by decide)]
  have q3 : b2 3 = b 3 := by rw [hb, if_neg (by decide)]
  have q4 : b2 4 = v := by rw [hb, if_pos rfl]
  have q5 : b2 5 = b 5 := by rw [hb, if_neg (by decide)]
  have q6 : b2 6 = b 6 := by rw [hb, if_neg (by decide)]
  have q7 : b2 7 = b 7 := by rw [hb, if_neg (by decide)]
  have q8 : b2 8 = b 8 := by rw [hb, if_neg (by decide)]
  have q9 : b2 9 = b 9 := by rw [hb, if_neg (by decide)]
  have q10 : b2 10 = b 10 := by rw [hb, if_neg (by decide)]
  obtain ⟨hA, hB, ⟨j, hj, e1, e2, e3, e4⟩, eh, ef, ew, ⟨ea, hp⟩, el, ed, et⟩ := h
  unfold rF
  rw [p0, p1, p2, p3, p4, p5, p6, p7, p8, p9, p10, q0, q1, q2, q3, q4, q5, q6, q7, q8, q9, q10]
  refine ⟨hA, hB, ⟨j, hj, e1, e2, e3, fun z => absurd (by rw [e1, z]; decide) h2⟩, ⟨rfl, hv⟩, ef, ew, ⟨ea, ?_⟩, el, ed, et⟩
  rcases hp with z | z | z | z
  · exact Or.inl z
  · exact Or.inr (Or.inl z)
  · exact Or.inr (Or.inr (Or.inl z))
  · exact absurd z.1 h7
theorem rF.wears {a b a2 b2 : Nat → Int32} {v : Int32} (h : rF P R a b) (ha : ∀ i, a2 i = if i = 6 then v else a i) (hb : ∀ i, b2 i = if i = 6 then v else b i) (hv : I_ v 0 100) : rF P R a2 b2 := by
  have p0 : a2 0 = a 0 := by rw [ha, if_neg (by decide)]
  have p1 : a2 1 = a 1 := by rw [ha, if_neg (by decide)]
  have p2 : a2 2 = a 2 := by rw [ha, if_neg (by decide)]
  have p3 : a2 3 = a 3 := by rw [ha, if_neg (by decide)]
  have p4 : a2 4 = a 4 := by rw [ha, if_neg (by decide)]
  have p5 : a2 5 = a 5 := by rw [ha, if_neg (by decide)]
  have p6 : a2 6 = v := by rw [ha, if_pos rfl]
  have p7 : a2 7 = a 7 := by rw [ha, if_neg (by decide)]
  have p8 : a2 8 = a 8 := by rw [ha, if_neg (by decide)]
  have p9 : a2 9 = a 9 := by rw [ha, if_neg (by decide)]
  have p10 : a2 10 = a 10 := by rw [ha, if_neg (by decide)]
  have q0 : b2 0 = b 0 := by rw [hb, if_neg (by decide)]
  have q1 : b2 1 = b 1 := by rw [hb, if_neg (by decide)]
  have q2 : b2 2 = b 2 := by rw [hb, if_neg (by decide)]
  have q3 : b2 3 = b 3 := by rw [hb, if_neg (by decide)]
  have q4 : b2 4 = b 4 := by rw [hb, if_neg (by decide)]
  have q5 : b2 5 = b 5 := by rw [hb, if_neg (by decide)]
  have q6 : b2 6 = v := by rw [hb, if_pos rfl]
  have q7 : b2 7 = b 7 := by rw [hb, if_neg (by decide)]
  have q8 : b2 8 = b 8 := by rw [hb, if_neg (by decide)]
  have q9 : b2 9 = b 9 := by rw [hb, if_neg (by decide)]
  have q10 : b2 10 = b 10 := by rw [hb, if_neg (by decide)]
  obtain ⟨hA, hB, ⟨j, hj, e1, e2, e3, e4⟩, eh, ef, ew, ⟨ea, hp⟩, el, ed, et⟩ := h
  unfold rF
  rw [p0, p1, p2, p3, p4, p5, p6, p7, p8, p9, p10, q0, q1, q2, q3, q4, q5, q6, q7, q8, q9, q10]
  exact ⟨hA, hB, ⟨j, hj, e1, e2, e3, e4⟩, eh, ef, ⟨rfl, hv⟩, ⟨ea, hp⟩, el, ed, et⟩
theorem rF.places {a b a2 b2 : Nat → Int32} {v : Int32} (h : rF P R a b) (ha : ∀ i, a2 i = if i = 7 then v else a i) (hb : ∀ i, b2 i = if i = 7 then v else b i) (hv : (∃ r, r < R ∧ v = nI r ∧ a 2 = 6) ∨ v = 5 ∨ (v = 6 ∧ I_ (a 9) 1 60) ∨ (v = 7 ∧ a 4 = 0)) : rF P R a2 b2 := by
  have p0 : a2 0 = a 0 := by rw [ha, if_neg (by decide)]
  have p1 : a2 1 = a 1 := by rw [ha, if_neg (by decide)]
  have p2 : a2 2 = a 2 := by rw [ha, if_neg (by decide)]
  have p3 : a2 3 = a 3 := by rw [ha, if_neg (by decide)]
  have p4 : a2 4 = a 4 := by rw [ha, if_neg (by decide)]
  have p5 : a2 5 = a 5 := by rw [ha, if_neg (by decide)]
  have p6 : a2 6 = a 6 := by rw [ha, if_neg (by decide)]
  have p7 : a2 7 = v := by rw [ha, if_pos rfl]
  have p8 : a2 8 = a 8 := by rw [ha, if_neg (by decide)]
  have p9 : a2 9 = a 9 := by rw [ha, if_neg (by decide)]
  have p10 : a2 10 = a 10 := by rw [ha, if_neg (by decide)]
  have q0 : b2 0 = b 0 := by rw [hb, if_neg (by decide)]
  have q1 : b2 1 = b 1 := by rw [hb, if_neg (by decide)]
  have q2 : b2 2 = b 2 := by rw [hb, if_neg (by decide)]
  have q3 : b2 3 = b 3 := by rw [hb, if_neg (by decide)]
  have q4 : b2 4 = b 4 := by rw [hb, if_neg (by decide)]
  have q5 : b2 5 = b 5 := by rw [hb, if_neg (by decide)]
  have q6 : b2 6 = b 6 := by rw [hb, if_neg (by decide)]
  have q7 : b2 7 = v := by rw [hb, if_pos rfl]
  have q8 : b2 8 = b 8 := by rw [hb, if_neg (by decide)]
  have q9 : b2 9 = b 9 := by rw [hb, if_neg (by decide)]
  have q10 : b2 10 = b 10 := by rw [hb, if_neg (by decide)]
  obtain ⟨hA, hB, ⟨j, hj, e1, e2, e3, e4⟩, eh, ef, ew, ⟨ea, hp⟩, el, ed, et⟩ := h
  unfold rF
  rw [p0, p1, p2, p3, p4, p5, p6, p7, p8, p9, p10, q0, q1, q2, q3, q4, q5, q6, q7, q8, q9, q10]
  exact ⟨hA, hB, ⟨j, hj, e1, e2, e3, e4⟩, eh, ef, ew, ⟨rfl, hv⟩, el, ed, et⟩
theorem rF.melted {a b a2 b2 : Nat → Int32}  (h : rF P R a b) (ha : ∀ i, a2 i = if i = 7 then 7 else if i = 4 then 0 else a i) (hb : ∀ i, b2 i = if i = 7 then 7 else if i = 4 then 0 else b i)  : rF P R a2 b2 := by
  have p0 : a2 0 = a 0 := by rw [ha, if_neg (by decide), if_neg (by decide)]
  have p1 : a2 1 = a 1 := by rw [ha, if_neg (by decide), if_neg (by decide)]
  have p2 : a2 2 = a 2 := by rw [ha, if_neg (by decide), if_neg (by decide)]
  have p3 : a2 3 = a 3 := by rw [ha, if_neg (by decide), if_neg (by decide)]
  have p4 : a2 4 = 0 := by rw [ha, if_neg (by decide), if_pos rfl]
  have p5 : a2 5 = a 5 := by rw [ha, if_neg (by decide), if_neg (by decide)]
  have p6 : a2 6 = a 6 := by rw [ha, if_neg (by decide), if_neg (by decide)]
  have p7 : a2 7 = 7 := by rw [ha, if_pos rfl]
  have p8 : a2 8 = a 8 := by rw [ha, if_neg (by decide), if_neg (by decide)]
  have p9 : a2 9 = a 9 := by rw [ha, if_neg (by decide), if_neg (by decide)]
  have p10 : a2 10 = a 10 := by rw [ha, if_neg (by decide), if_neg (by decide)]
  have q0 : b2 0 = b 0 := by rw [hb, if_neg (by decide), if_neg (by decide)]
  have q1 : b2 1 = b 1 := by rw [hb, if_neg (by decide), if_neg (by decide)]
  have q2 : b2 2 = b 2 := by rw [hb, if_neg (by decide), if_neg (by decide)]
  have q3 : b2 3 = b 3 := by rw [hb, if_neg (by decide), if_neg (by decide)]
  have q4 : b2 4 = 0 := by rw [hb, if_neg (by decide), if_pos rfl]
  have q5 : b2 5 = b 5 := by rw [hb, if_neg (by decide), if_neg (by decide)]
  have q6 : b2 6 = b 6 := by rw [hb, if_neg (by decide), if_neg (by decide)]
  have q7 : b2 7 = 7 := by rw [hb, if_pos rfl]
  have q8 : b2 8 = b 8 := by rw [hb, if_neg (by decide), if_neg (by decide)]
  have q9 : b2 9 = b 9 := by rw [hb, if_neg (by decide), if_neg (by decide)]
  have q10 : b2 10 = b 10 := by rw [hb, if_neg (by decide), if_neg (by decide)]
  obtain ⟨hA, hB, ⟨j, hj, e1, e2, e3, e4⟩, eh, ef, ew, ⟨ea, hp⟩, el, ed, et⟩ := h
  unfold rF
  rw [p0, p1, p2, p3, p4, p5, p6, p7, p8, p9, p10, q0, q1, q2, q3, q4, q5, q6, q7, q8, q9, q10]
  exact ⟨hA, hB, ⟨j, hj, e1, e2, e3, fun z => ⟨(e4 z).1, (e4 z).2.1, rfl⟩⟩, ⟨rfl, by decide, by decide⟩, ef, ew, ⟨rfl, Or.inr (Or.inr (Or.inr ⟨rfl, rfl⟩))⟩, el, ed, et⟩
theorem rF.tours {a b a2 b2 : Nat → Int32} {y z : Int32} (h : rF P R a b) (ha : ∀ i, a2 i = if i = 9 then z else if i = 8 then y else if i = 7 then 6 else a i) (hb : ∀ i, b2 i = if i = 9 then y else if i = 8 then z else if i = 7 then 6 else b i) (hy : ∃ r, r < 3 ∧ y = nI r) (hz : I_ z 1 60) : rF P R a2 b2 := by
  have p0 : a2 0 = a 0 := by rw [ha, if_neg (by decide), if_neg (by decide), if_neg (by decide)]
  have p1 : a2 1 = a 1 := by rw [ha, if_neg (by decide), if_neg (by decide), if_neg (by decide)]
  have p2 : a2 2 = a 2 := by rw [ha, if_neg (by decide), if_neg (by decide), if_neg (by decide)]
  have p3 : a2 3 = a 3 := by rw [ha, if_neg (by decide), if_neg (by decide), if_neg (by decide)]
  have p4 : a2 4 = a 4 := by rw [ha, if_neg (by decide), if_neg (by decide), if_neg (by decide)]
  have p5 : a2 5 = a 5 := by rw [ha, if_neg (by decide), if_neg (by decide), if_neg (by decide)]
  have p6 : a2 6 = a 6 := by rw [ha, if_neg (by decide), if_neg (by decide), if_neg (by decide)]
  have p7 : a2 7 = 6 := by rw [ha, if_neg (by decide), if_neg (by decide), if_pos rfl]
  have p8 : a2 8 = y := by rw [ha, if_neg (by decide), if_pos rfl]
  have p9 : a2 9 = z := by rw [ha, if_pos rfl]
  have p10 : a2 10 = a 10 := by rw [ha, if_neg (by decide), if_neg (by decide), if_neg (by decide)]
  have q0 : b2 0 = b 0 := by rw [hb, if_neg (by decide), if_neg (by decide), if_neg (by decide)]
  have q1 : b2 1 = b 1 := by rw [hb, if_neg (by decide), if_neg (by decide), if_neg (by decide)]
  have q2 : b2 2 = b 2 := by rw [hb, if_neg (by decide), if_neg (by decide), if_neg (by decide)]
  have q3 : b2 3 = b 3 := by rw [hb, if_neg (by decide), if_neg (by decide), if_neg (by decide)]
  have q4 : b2 4 = b 4 := by rw [hb, if_neg (by decide), if_neg (by decide), if_neg (by decide)]
  have q5 : b2 5 = b 5 := by rw [hb, if_neg (by decide), if_neg (by decide), if_neg (by decide)]
  have q6 : b2 6 = b 6 := by rw [hb, if_neg (by decide), if_neg (by decide), if_neg (by decide)]
  have q7 : b2 7 = 6 := by rw [hb, if_neg (by decide), if_neg (by decide), if_pos rfl]
  have q8 : b2 8 = z := by rw [hb, if_neg (by decide), if_pos rfl]
  have q9 : b2 9 = y := by rw [hb, if_pos rfl]
  have q10 : b2 10 = b 10 := by rw [hb, if_neg (by decide), if_neg (by decide), if_neg (by decide)]
  obtain ⟨hA, hB, ⟨j, hj, e1, e2, e3, e4⟩, eh, ef, ew, ⟨ea, hp⟩, el, ed, et⟩ := h
  unfold rF
  rw [p0, p1, p2, p3, p4, p5, p6, p7, p8, p9, p10, q0, q1, q2, q3, q4, q5, q6, q7, q8, q9, q10]
  exact ⟨hA, hB, ⟨j, hj, e1, e2, e3, e4⟩, eh, ef, ew, ⟨rfl, Or.inr (Or.inr (Or.inl ⟨rfl, hz⟩))⟩, ⟨rfl, hy⟩, rfl, et⟩
theorem rF.heads_ {a b a2 b2 : Nat → Int32} {u v : Int32} (h : rF P R a b) (ha : ∀ i, a2 i = if i = 5 then v else if i = 0 then u else a i) (hb : ∀ i, b2 i = if i = 5 then v else if i = 0 then u else b i) (hu : ∃ h, h < P ∧ u = nI h) (hv : I_ v 0 99) : rF P R a2 b2 := by
  have p0 : a2 0 = u := by rw [ha, if_neg (by decide), if_pos rfl]
  have p1 : a2 1 = a 1 := by rw [ha, if_neg (by decide), if_neg (by decide)]
  have p2 : a2 2 = a 2 := by rw [ha, if_neg (by decide), if_neg (by decide)]
  have p3 : a2 3 = a 3 := by rw [ha, if_neg (by decide), if_neg (by decide)]
  have p4 : a2 4 = a 4 := by rw [ha, if_neg (by decide), if_neg (by decide)]
  have p5 : a2 5 = v := by rw [ha, if_pos rfl]
  have p6 : a2 6 = a 6 := by rw [ha, if_neg (by decide), if_neg (by decide)]
  have p7 : a2 7 = a 7 := by rw [ha, if_neg (by decide), if_neg (by decide)]
  have p8 : a2 8 = a 8 := by rw [ha, if_neg (by decide), if_neg (by decide)]
  have p9 : a2 9 = a 9 := by rw [ha, if_neg (by decide), if_neg (by decide)]
  have p10 : a2 10 = a 10 := by rw [ha, if_neg (by decide), if_neg (by decide)]
  have q0 : b2 0 = u := by rw [hb, if_neg (by decide), if_pos rfl]
  have q1 : b2 1 = b 1 := by rw [hb, if_neg (by decide), if_neg (by decide)]
  have q2 : b2 2 = b 2 := by rw [hb, if_neg (by decide), if_neg (by decide)]
  have q3 : b2 3 = b 3 := by rw [hb, if_neg (by decide), if_neg (by decide)]
  have q4 : b2 4 = b 4 := by rw [hb, if_neg (by decide), if_neg (by decide)]
  have q5 : b2 5 = v := by rw [hb, if_pos rfl]
  have q6 : b2 6 = b 6 := by rw [hb, if_neg (by decide), if_neg (by decide)]
  have q7 : b2 7 = b 7 := by rw [hb, if_neg (by decide), if_neg (by decide)]
  have q8 : b2 8 = b 8 := by rw [hb, if_neg (by decide), if_neg (by decide)]
  have q9 : b2 9 = b 9 := by rw [hb, if_neg (by decide), if_neg (by decide)]
  have q10 : b2 10 = b 10 := by rw [hb, if_neg (by decide), if_neg (by decide)]
  obtain ⟨hA, hB, ⟨j, hj, e1, e2, e3, e4⟩, eh, ef, ew, ⟨ea, hp⟩, el, ed, et⟩ := h
  unfold rF
  rw [p0, p1, p2, p3, p4, p5, p6, p7, p8, p9, p10, q0, q1, q2, q3, q4, q5, q6, q7, q8, q9, q10]
  obtain ⟨h0, k0, eu⟩ := hu
  exact ⟨⟨h0, k0, eu, eu⟩, hB, ⟨j, hj, e1, e2, e3, e4⟩, eh, ⟨rfl, hv⟩, ew, ⟨ea, hp⟩, el, ed, et⟩
theorem rP.set (h : rP σ ρ q) (h4 : ∀ j, σ' 4 q j = σ 4 q j) (h5 : ∀ j, σ' 5 q j = σ 5 q j) (h6 : ∀ j, σ' 6 q j = σ 6 q j) (h7 : ∀ j, σ' 7 q j = σ 7 q j) (h8 : ∀ j, σ' 8 q j = σ 8 q j) (g1 : ∀ j, ρ' 11 q j = ρ 11 q j) (g2 : ∀ j, ρ' 12 q j = ρ 12 q j) (g3 : ∀ j, ρ' 13 q j = ρ 13 q j) : rP σ' ρ' q := h.same h4 h5 h6 h7 h8 g1 g2 g3
theorem mrL.trend_ (h : mrL P F R N σ ρ) (hq : q < P) {j : Nat} (hj : j < 3) {z : Int32} (hz : I_ z (-40) 40) : mrL P F R N (hs_sg σ 6 q j z) (hs_sg ρ 11 q (3 + j) z) := by
  obtain ⟨p1, p2, p3, p4, p5, p6⟩ := h.2.2.1 q hq
  refine h.setP (q := q) (fun k i jj y => by rw [pc9, if_neg (by omega)]) (fun k i jj y => by rw [pc9, if_neg (by omega)]) ⟨fun i hi => ?_, fun i hi => ?_, ?_, ?_, ?_, fun i hi => ?_⟩
  · rw [pc9, if_neg (by omega), pc9, if_neg (by omega)]; exact p1 i hi
  · rw [sgv, sgv]
    by_cases e : i = j
    · rw [if_pos (by omega), if_pos e]; exact ⟨rfl, hz⟩
    · rw [if_neg (by omega), if_neg e]; exact p2 i hi
  · rw [pc9, if_neg (by omega), pc9, if_neg (by omega)]; exact p3
  · rw [pc9, if_neg (by omega), pc9, if_neg (by omega)]; exact p4
  · rw [pc9, if_neg (by omega), pc9, if_neg (by omega)]; exact p5
  · rw [pc9, if_neg (by omega), pc9, if_neg (by omega), pc9, if_neg (by omega), pc9, if_neg (by omega)]; exact p6 i hi
theorem mrL.famed (h : mrL P F R N σ ρ) (hq : q < P) {j : Nat} (hj : j < 3) {z : Int32} (hz : I_ z 0 999) : mrL P F R N (hs_sg σ 5 q j z) (hs_sg ρ 11 q j z) := by
  obtain ⟨p1, p2, p3, p4, p5, p6⟩ := h.2.2.1 q hq
  refine h.setP (q := q) (fun k i jj y => by rw [pc9, if_neg (by omega)]) (fun k i jj y => by rw [pc9, if_neg (by omega)]) ⟨fun i hi => ?_, fun i hi => ?_, ?_, ?_, ?_, fun i hi => ?_⟩
  · rw [sgv, sgv]
    by_cases e : i = j
    · rw [if_pos e, if_pos e]; exact ⟨rfl, hz⟩
    · rw [if_neg e, if_neg e]; exact p1 i hi
  · rw [pc9, if_neg (by omega), pc9, if_neg (by omega)]; exact p2 i hi
  · rw [pc9, if_neg (by omega), pc9, if_neg (by omega)]; exact p3
  · rw [pc9, if_neg (by omega), pc9, if_neg (by omega)]; exact p4
  · rw [pc9, if_neg (by omega), pc9, if_neg (by omega)]; exact p5
  · rw [pc9, if_neg (by omega), pc9, if_neg (by omega), pc9, if_neg (by omega), pc9, if_neg (by omega)]; exact p6 i hi
theorem mrL.cons_ (h : mrL P F R N σ ρ) (hq : q < P) {z : Int32} (hz : z = 0 ∨ z = 1) : mrL P F R N (hs_sg σ 4 q 5 z) (hs_sg ρ 11 q 6 z) := by
  obtain ⟨p1, p2, p3, p4, p5, p6⟩ := h.2.2.1 q hq
  refine h.setP (q := q) (fun k i jj y => by rw [pc9, if_neg (by omega)]) (fun k i jj y => by rw [pc9, if_neg (by omega)]) ⟨fun i hi => ?_, fun i hi => ?_, ?_, ?_, ?_, fun i hi => ?_⟩
  · rw [pc9, if_neg (by omega), pc9, if_neg (by omega)]; exact p1 i hi
  · rw [pc9, if_neg (by omega), pc9, if_neg (by omega)]; exact p2 i hi
  · rw [sgv, sgv, if_pos rfl, if_pos rfl]; exact ⟨rfl, hz⟩
  · rw [pc9, if_neg (by omega), pc9, if_neg (by omega)]; exact p4
  · rw [pc9, if_neg (by omega), pc9, if_neg (by omega)]; exact p5
  · rw [pc9, if_neg (by omega), pc9, if_neg (by omega), pc9, if_neg (by omega), pc9, if_neg (by omega)]; exact p6 i hi
theorem mrL.due_ (h : mrL P F R N σ ρ) (hq : q < P) (z : Int32) : mrL P F R N (hs_sg σ 4 q 6 z) (hs_sg ρ 11 q 7 z) := by
  obtain ⟨p1, p2, p3, p4, p5, p6⟩ := h.2.2.1 q hq
  refine h.setP (q := q) (fun k i jj y => by rw [pc9, if_neg (by omega)]) (fun k i jj y => by rw [pc9, if_neg (by omega)]) ⟨fun i hi => ?_, fun i hi => ?_, ?_, ?_, ?_, fun i hi => ?_⟩
  · rw [pc9, if_neg (by omega), pc9, if_neg (by omega)]; exact p1 i hi
  · rw [pc9, if_neg (by omega), pc9, if_neg (by omega)]; exact p2 i hi
  · rw [pc9, if_neg (by omega), pc9, if_neg (by omega)]; exact p3
  · rw [sgv, sgv, if_pos rfl, if_pos rfl]
  · rw [pc9, if_neg (by omega), pc9, if_neg (by omega)]; exact p5
  · rw [pc9, if_neg (by omega), pc9, if_neg (by omega), pc9, if_neg (by omega), pc9, if_neg (by omega)]; exact p6 i hi
theorem mrL.fig (h : mrL P F R N σ ρ) (hf : f < F) (hs : ∀ k i j, ¬ (k = 9 ∧ i = f) → σ' k i j = σ k i j) (gs : ∀ k i j, ¬ (k = 14 ∧ i = f) → ρ' k i j = ρ k i j) (hg : rF P R (σ 9 f) (ρ 14 f) → rF P R (σ' 9 f) (ρ' 14 f)) : mrL P F R N σ' ρ' := h.setF hs gs (hg (h.2.2.2.1 f hf))
/-- one slot of one figure -/
theorem mrL.fig1 (h : mrL P F R N σ ρ) (hf : f < F) (j : Nat) {v : Int32} (hg : rF P R (hs_sg σ 9 f j v 9 f) (hs_sg ρ 14 f j v 14 f)) : mrL P F R N (hs_sg σ 9 f j v) (hs_sg ρ 14 f j v) := h.setF (f := f) (fun k i jj y => by rw [pc9, if_neg (by omega)]) (fun k i jj y => by rw [pc9, if_neg (by omega)]) hg
theorem mrL.place (h : mrL P F R N σ ρ) (hf : f < F) {v : Int32} (hv : (∃ r, r < R ∧ v = nI r ∧ σ 9 f 2 = 6) ∨ v = 5) : mrL P F R N (hs_sg σ 9 f 7 v) (hs_sg ρ 14 f 7 v) := h.fig1 hf 7 ((h.2.2.2.1 f hf).places (fun i => sgv) (fun i => sgv) (hv.elim Or.inl (fun z => Or.inr (Or.inl z))))
theorem mrL.scal {j jr : Nat} (h : mrL P F R N σ ρ) {v : Int32} (hS : rS N (hs_sg σ 0 0 j v) (hs_sg ρ 0 0 jr v)) : mrL P F R N (hs_sg σ 0 0 j v) (hs_sg ρ 0 0 jr v) := h.setS (fun k i jj y => by rw [pc9, if_neg (by omega)]) (fun k i jj y => by rw [pc9, if_neg (by omega)]) hS
theorem mrL.money (h : mrL P F R N σ ρ) (v : Int32) : mrL P F R N (hs_sg σ 0 0 7 v) (hs_sg ρ 0 0 12 v) := by
  obtain ⟨s1, s2, s3, s4, s5⟩ := h.2.1
  refine h.scal ?_
  unfold rS
  rw [sgv, sgv, sgv, sgv, sgv, sgv, sgv, sgv, sgv, sgv]
  exact ⟨s1, rfl, s3, s4, s5⟩
theorem mrL.price_ (h : mrL P F R N σ ρ) {v : Int32} (hv : I_ v 0 20) : mrL P F R N (hs_sg σ 0 0 9 v) (hs_sg ρ 0 0 11 v) := by
  obtain ⟨s1, s2, s3, s4, s5⟩ := h.2.1
  refine h.scal ?_
  unfold rS
  rw [sgv, sgv, sgv, sgv, sgv, sgv, sgv, sgv, sgv, sgv]
  exact ⟨s1, s2, s3, ⟨rfl, hv⟩, s5⟩
theorem mrL.wax_ {N' : Nat} (h : mrL P F R N σ ρ) {v : Int32} (hv : I_ v 0 (30 + 20 * N')) : mrL P F R N' (hs_sg σ 0 0 8 v) (hs_sg ρ 0 0 13 v) := by
  obtain ⟨s1, s2, s3, s4, s5⟩ := h.2.1
  refine h.setS (fun k i jj y => by rw [pc9, if_neg (by omega)]) (fun k i jj y => by rw [pc9, if_neg (by omega)]) ?_
  unfold rS
  rw [sgv, sgv, sgv, sgv, sgv, sgv, sgv, sgv, sgv, sgv]
  exact ⟨s1, s2, ⟨rfl, hv⟩, s4, s5⟩
def cl_price (σ : hs_St) (x : Int32) : cl_X := if mp_in x 0 20 = 0 then (1, 0, σ) else (0, σ 0 0 9, hs_sg σ 0 0 9 x)
theorem sim_price {x : Int32} (h : mr P F R N σ ρ) (hp : if mp_in x 0 20 = 0 then (0 : Int32) = b ∧ (1 : Int32) = X.1 ∧ ρ = X.2 else ρ 0 0 11 = b ∧ (0 : Int32) = X.1 ∧ hs_sg ρ 0 0 11 x = X.2) : sim R N (cl_price σ x) b X := by
  unfold cl_price
  by_cases c1 : mp_in x 0 20 = 0
  · rw [if_pos c1] at hp ⊢
    exact sim_err h 1 (by decide) hp.2
  · rw [if_neg c1] at hp ⊢
    refine sim_ok ((h.put (h.2.2.1.price_ (mp_in_I c1)) (fun j h3 h6 => by rw [pc9, if_neg (by omega)]) (fun j h3 h6 => by rw [pc9, if_neg (by omega)]) (fun k i j y => by rw [pc9, if_neg (by unfold dS at y; omega)]) (fun k i j y => by rw [pc9, if_neg (by unfold dR at y; omega)])).up (Nat.le_succ N)) (Nat.le_refl _) ?_ hp.2
    rw [← hp.1]
    exact h.2.2.1.2.1.2.2.2.1.1.symm
def cl_trend (P : Nat) (σ : hs_St) (x y z : Int32) : cl_X := if mp_in x 0 (nI P - 1) = 0 then (1, 0, σ) else if mp_in y 0 2 = 0 then (1, 0, σ) else if mp_in z (-40) 40 = 0 then (2, 0, σ) else (0, σ 6 x.toNatClampNeg y.toNatClampNeg, hs_sg σ 6 x.toNatClampNeg y.toNatClampNeg z)
theorem sim_trend {x y z : Int32} (h : mr P F R N σ ρ) (hp : if mp_in x 0 (nI P - 1) = 0 then (0 : Int32) = b ∧ (1 : Int32) = X.1 ∧ ρ = X.2 else if mp_in y 0 2 = 0 then (0 : Int32) = b ∧ (1 : Int32) = X.1 ∧ ρ = X.2 else if mp_in z (-40) 40 = 0 then (0 : Int32) = b ∧ (2 : Int32) = X.1 ∧ ρ = X.2 else ρ 11 x.toNatClampNeg (3 + y.toNatClampNeg) = b ∧ (0 : Int32) = X.1 ∧ hs_sg ρ 11 x.toNatClampNeg (3 + y.toNatClampNeg) z = X.2) : sim R N (cl_trend P σ x y z) b X := by
  unfold cl_trend
  by_cases c1 : mp_in x 0 (nI P - 1) = 0
  · rw [if_pos c1] at hp ⊢
    exact sim_err h 1 (by decide) hp.2
  · rw [if_neg c1] at hp ⊢
    by_cases c2 : mp_in y 0 2 = 0
    · rw [if_pos c2] at hp ⊢
      exact sim_err h 1 (by decide) hp.2
    · rw [if_neg c2] at hp ⊢
      by_cases c3 : mp_in z (-40) 40 = 0
      · rw [if_pos c3] at hp ⊢
        exact sim_err h 2 (by decide) hp.2
      · rw [if_neg c3] at hp ⊢
        have h10 := h.2.2.1.1.1
        obtain ⟨q, hq, rfl⟩ := mp_in_ix (by omega) c1
        have cq : (nI q).toNatClampNeg = q := nI_clamp (by omega)
        rw [cq] at hp ⊢
        obtain ⟨j, hj, rfl⟩ := mp_in_le (n := 2) (by decide) c2
        have cj : (nI j).toNatClampNeg = j := nI_clamp (by omega)
        rw [cj] at hp ⊢
        refine sim_ok ((h.put (h.2.2.1.trend_ hq (show j < 3 by omega) (mp_in_I c3)) (fun j h3 h6 => by rw [pc9, if_neg (by omega)]) (fun j h3 h6 => by rw [pc9, if_neg (by omega)]) (fun k i j y => by rw [pc9, if_neg (by unfold dS at y; omega)]) (fun k i j y => by rw [pc9, if_neg (by unfold dR at y; omega)])).up (Nat.le_succ N)) (Nat.le_refl _) ?_ hp.2
        rw [← hp.1]
        exact ((h.2.2.1.2.2.1 q hq).2.1 j (by omega)).1.symm
theorem mrL.news (h : mrL P F R N σ ρ) (hq : q < P) (y : Int32) : ∀ n, n ≤ 3 → mrL P F R N (sp_news σ q y n) (mp_news ρ q y n) := by
  intro n
  induction n with
  | zero => exact fun _ => h
  | succ n ih =>
    intro hn
    have i1 := ih (by omega)
    have e := ((i1.2.2.1 q hq).1 n (by omega)).1
    rw [sp_news, mp_news, e, ← sp_held_mp]
    exact i1.famed hq (by omega) (sp_held_I _)
theorem sp_news_off (σ : hs_St) (q : Nat) (y : Int32) (k i j : Nat) (h : ¬ (k = 5 ∧ i = q)) : ∀ n, sp_news σ q y n k i j = σ k i j := by
  intro n
  induction n with
  | zero => rfl
  | succ n ih =>
    rw [sp_news, pc9, if_neg (by omega)]
    exact ih
theorem mp_news_off (ρ : hs_St) (q : Nat) (y : Int32) (k i j : Nat) (h : ¬ (k = 11 ∧ i = q)) : ∀ n, mp_news ρ q y n k i j = ρ k i j := by
  intro n
  induction n with
  | zero => rfl
  | succ n ih =>
    rw [mp_news, pc9, if_neg (by omega)]
    exact ih
def cl_news (P : Nat) (σ : hs_St) (x y : Int32) : cl_X := if mp_in x 0 (nI P - 1) = 0 then (1, 0, σ) else if mp_in y (-500) 500 = 0 then (2, 0, σ) else (0, sp_news σ x.toNatClampNeg y 3 5 x.toNatClampNeg 0, sp_news σ x.toNatClampNeg y 3)
theorem sim_news {x y : Int32} (h : mr P F R N σ ρ) (hp : mp_newsP P ρ x y b X) : sim R N (cl_news P σ x y) b X := by
  unfold mp_newsP at hp
  unfold cl_news
  by_cases c1 : mp_in x 0 (nI P - 1) = 0
  · rw [if_pos c1] at hp ⊢
    exact sim_err h 1 (by decide) hp.2
  · rw [if_neg c1] at hp ⊢
    by_cases c2 : mp_in y (-500) 500 = 0
    · rw [if_pos c2] at hp ⊢
      exact sim_err h 2 (by decide) hp.2
    · rw [if_neg c2] at hp ⊢
      have h10 := h.2.2.1.1.1
      obtain ⟨q, hq, rfl⟩ := mp_in_ix (by omega) c1
      have cq : (nI q).toNatClampNeg = q := nI_clamp (by omega)
      rw [cq] at hp ⊢
      have hl := h.2.2.1.news hq y 3 (Nat.le_refl _)
      refine sim_ok ((h.put hl (fun j h3 h6 => sp_news_off _ _ _ _ _ _ (by omega) 3) (fun j h3 h6 => mp_news_off _ _ _ _ _ _ (by omega) 3) (fun k i j y9 => sp_news_off _ _ _ _ _ _ (by unfold dS at y9; omega) 3) (fun k i j y9 => mp_news_off _ _ _ _ _ _ (by unfold dR at y9; omega) 3)).up (Nat.le_succ N)) (Nat.le_refl _) ?_ hp.2
      rw [← hp.1]
      exact ((hl.2.2.1 q hq).1 0 (by decide)).1.symm
theorem mrL.unshow (h : mrL P F R N σ ρ) (hq : q < 10) : ∀ n, n ≤ F → (sp_tk σ q n).1 = (mp_unshow ρ q n).1 ∧ mrL P F R N (sp_tk σ q n).2 (mp_unshow ρ q n).2 := by
  intro n
  induction n with
  | zero => exact fun _ => ⟨rfl, h⟩
  | succ n ih =>
    intro hn
    obtain ⟨i1, i2⟩ := ih (by omega)
    have hF := i2.2.2.2.1 n (by omega)
    have hs := hF.shown i2.1.2.2
    obtain ⟨⟨h0, k0, a0, b0⟩, -⟩ := id hF
    have h10 := h.1.1
    rw [sp_tk, mp_unshow, hs, a0, b0, nI_clamp (by omega)]
    by_cases a : mp_isShown (mp_unshow ρ q n).2 n = 0
    · rw [if_pos a, if_pos a, ite_self]
      exact ⟨i1, i2⟩
    · rw [if_neg a, if_neg a]
      by_cases e : h0 = q
      · rw [if_pos e, if_pos (by rw [e])]
        exact ⟨by show _ + 1 = _ + 1; rw [i1], i2.place (by omega) (Or.inr rfl)⟩
      · rw [if_neg e, if_neg (fun z => e (nI_inj (by omega) (by omega) z))]
        exact ⟨i1, i2⟩
theorem sp_tk_off (σ : hs_St) (q k i j : Nat) : ∀ n, ¬ (k = 9 ∧ i < n) → (sp_tk σ q n).2 k i j = σ k i j := by
  intro n
  induction n with
  | zero => exact fun _ => rfl
  | succ n ih =>
    intro h
    have i1 := ih (by omega)
    rw [sp_tk]
    split
    · split
      · exact i1
      · show hs_sg (sp_tk σ q n).2 9 n 7 5 k i j = _
        rw [pc9, if_neg (by omega)]
        exact i1
    · exact i1
theorem mp_unshow_off (ρ : hs_St) (q k i j : Nat) (h : ¬ k = 14) : ∀ n, (mp_unshow ρ q n).2 k i j = ρ k i j := by
  intro n
  induction n with
  | zero => rfl
  | succ n ih =>
    rw [mp_unshow]
    split
    · exact ih
    · split
      · show hs_sg (mp_unshow ρ q n).2 14 n 7 5 k i j = _
        rw [pc9, if_neg (by omega)]
        exact ih
      · exact ih
def cl_consent (P F : Nat) (σ : hs_St) (x z : Int32) : cl_X := if mp_in x 0 (nI P - 1) = 0 then (1, 0, σ) else if z = 0 then (0, (sp_tk (hs_sg σ 4 x.toNatClampNeg 5 0) x.toNatClampNeg F).1, (sp_tk (hs_sg σ 4 x.toNatClampNeg 5 0) x.toNatClampNeg F).2) else (0, 0, hs_sg σ 4 x.toNatClampNeg 5 1)
theorem sim_consent {x z : Int32} (h : mr P F R N σ ρ) (hp : mp_consentP P F ρ x z b X) : sim R N (cl_consent P F σ x z) b X := by
  unfold mp_consentP mp_cons at hp
  unfold cl_consent
  by_cases c1 : mp_in x 0 (nI P - 1) = 0
  · rw [if_pos c1] at hp ⊢
    exact sim_err h 1 (by decide) hp.2
  · rw [if_neg c1] at hp ⊢
    have h10 := h.2.2.1.1.1
    obtain ⟨q, hq, rfl⟩ := mp_in_ix (by omega) c1
    have cq : (nI q).toNatClampNeg = q := nI_clamp (by omega)
    rw [cq] at hp ⊢
    by_cases c2 : z = 0
    · rw [if_pos c2] at hp ⊢
      obtain ⟨u1, u2⟩ := (h.2.2.1.cons_ hq (z := 0) (Or.inl rfl)).unshow (q := q) (by omega) F (Nat.le_refl _)
      refine sim_ok ((h.put u2 (fun j h3 h6 => ?_) (fun j h3 h6 => ?_) (fun k i j y => ?_) (fun k i j y => ?_)).up (Nat.le_succ N)) (Nat.le_refl _) (u1.trans hp.1) hp.2
      · rw [sp_tk_off _ _ _ _ _ F (by omega), pc9, if_neg (by omega)]
      · rw [mp_unshow_off _ _ _ _ _ (by omega) F, pc9, if_neg (by omega)]
      · unfold dS at y
        rw [sp_tk_off _ _ _ _ _ F (by omega), pc9, if_neg (by omega)]
      · unfold dR at y
        rw [mp_unshow_off _ _ _ _ _ (by omega) F, pc9, if_neg (by omega)]
    · rw [if_neg c2] at hp ⊢
      exact sim_ok ((h.put (h.2.2.1.cons_ hq (Or.inr rfl)) (fun j h3 h6 => by rw [pc9, if_neg (by omega)]) (fun j h3 h6 => by rw [pc9, if_neg (by omega)]) (fun k i j y => by rw [pc9, if_neg (by unfold dS at y; omega)]) (fun k i j y => by rw [pc9, if_neg (by unfold dR at y; omega)])).up (Nat.le_succ N)) (Nat.le_refl _) hp.1 hp.2
theorem sp_lo {v er : Int32} (hv : I_ v 0 99) (he : I_ er 0 20) : (if v - er < 0 then 0 else v - er) = mp_held (v - er) 99 ∧ I_ (mp_held (v - er) 99) 0 99 ∧ (mp_held (v - er) 99).toInt ≤ v.toInt := by
  have v1 := hv.1; have v2 := hv.2; have e1 := he.1; have e2 := he.2
  have e : (v - er).toInt = v.toInt - er.toInt := tI_sub (by omega) (by omega)
  have m : mp_min 99 (v - er) = v - er := by
    unfold mp_min
    by_cases a : v - er < 99
    · rw [if_pos a]
    · rw [if_neg a]
      rw [tI_lt, tI_99] at a
      exact tI_eq (by rw [tI_99]; omega)
  unfold mp_held
  rw [m]
  unfold mp_max
  by_cases a : v - er < 0
  · rw [if_pos a, if_neg (show ¬ 0 < v - er by rw [tI_lt, tI_0] at a ⊢; omega)]
    exact ⟨rfl, ⟨by decide, by decide⟩, by rw [tI_0]; omega⟩
  · rw [if_neg a]
    rw [tI_lt, tI_0] at a
    by_cases c : 0 < v - er
    · rw [if_pos c]
      exact ⟨rfl, ⟨by omega, by omega⟩, by omega⟩
    · rw [if_neg c]
      rw [tI_lt, tI_0] at c
      exact ⟨tI_eq (by rw [tI_0]; omega), ⟨by decide, by decide⟩, by rw [tI_0]; omega⟩
theorem sp_hi {v er : Int32} (hv : I_ v 0 99) (he : I_ er 0 20) : (if 99 < v + er then 99 else v + er) = mp_held (v + er) 99 ∧ I_ (mp_held (v + er) 99) 0 99 ∧ v.toInt ≤ (mp_held (v + er) 99).toInt := by
  have v1 := hv.1; have v2 := hv.2; have e1 := he.1; have e2 := he.2
  have e : (v + er).toInt = v.toInt + er.toInt := tI_add (by omega) (by omega)
  unfold mp_held mp_min
  by_cases a : 99 < v + er
  · rw [if_pos a, if_neg (show ¬ v + er < 99 by rw [tI_lt] at a ⊢; omega)]
    exact ⟨by decide, ⟨by decide, by decide⟩, by rw [show (mp_max 0 99).toInt = 99 from by decide]; omega⟩
  · rw [if_neg a]
    rw [tI_lt, tI_99] at a
    have m : (if v + er < 99 then v + er else 99) = v + er := by
      by_cases c : v + er < 99
      · rw [if_pos c]
      · rw [if_neg c]
        rw [tI_lt, tI_99] at c
        exact tI_eq (by rw [tI_99]; omega)
    rw [m]
    unfold mp_max
    by_cases c : 0 < v + er
    · rw [if_pos c]
      exact ⟨rfl, ⟨by omega, by omega⟩, by omega⟩
    · rw [if_neg c]
      rw [tI_lt, tI_0] at c
      exact ⟨tI_eq (by rw [tI_0]; omega), ⟨by decide, by decide⟩, by rw [tI_0]; omega⟩
theorem sp_mx {a c : Int32} : (if a < c then c else a) = mp_max c a := by
  unfold mp_max
  by_cases x : a < c
  · rw [if_pos x, if_neg (show ¬ c < a by rw [tI_lt] at x ⊢; omega)]
  · rw [if_neg x]
    by_cases y : c < a
    · rw [if_pos y]
    · rw [if_neg y]
      exact tI_eq (by rw [tI_lt] at x y; omega)
theorem sp_mn {a c : Int32} : (if c < a then c else a) = mp_min c a := by
  unfold mp_min
  by_cases x : c < a
  · rw [if_pos x, if_neg (show ¬ a < c by rw [tI_lt] at x ⊢; omega)]
  · rw [if_neg x]
    by_cases y : a < c
    · rw [if_pos y]
    · rw [if_neg y]
      exact tI_eq (by rw [tI_lt] at x y; omega)
theorem mx_I {a c : Int32} (ha : I_ a 0 99) (hc : I_ c 0 99) : I_ (mp_max a c) 0 99 := by
  unfold mp_max
  split
  · exact hc
  · exact ha
theorem mn_I {a c : Int32} (ha : I_ a 0 99) (hc : I_ c 0 99) : I_ (mp_min a c) 0 99 := by
  unfold mp_min
  split
  · exact hc
  · exact ha
/-- three slots of one person -/
theorem mrL.learnt (h : mrL P F R N σ ρ) (hq : q < P) {j : Nat} (hj : j < 6) {lo hi_ c : Int32} (h1 : I_ lo 0 99) (h2 : I_ hi_ 0 99) (h3 : lo.toInt ≤ hi_.toInt) : mrL P F R N (hs_sg (hs_sg (hs_sg σ 7 q j lo) 8 q j hi_) 4 q 7 c) (hs_sg (hs_sg (hs_sg ρ 11 q 8 c) 12 q j lo) 13 q j hi_) := by
  obtain ⟨p1, p2, p3, p4, p5, p6⟩ := h.2.2.1 q hq
  refine h.setP (q := q) (fun k i jj y => by rw [pc9, if_neg (by omega), pc9, if_neg (by omega), pc9, if_neg (by omega)]) (fun k i jj y => by rw [pc9, if_neg (by omega), pc9, if_neg (by omega), pc9, if_neg (by omega)]) ⟨fun i hi => ?_, fun i hi => ?_, ?_, ?_, ?_, fun i hi => ?_⟩
  · rw [pc9, if_neg (by omega), pc9, if_neg (by omega), pc9, if_neg (by omega), pc9, if_neg (by omega), pc9, if_neg (by omega), pc9, if_neg (by omega)]; exact p1 i hi
  · rw [pc9, if_neg (by omega), pc9, if_neg (by omega), pc9, if_neg (by omega), pc9, if_neg (by omega), pc9, if_neg (by omega), pc9, if_neg (by omega)]; exact p2 i hi
  · rw [pc9, if_neg (by omega), pc9, if_neg (by omega), pc9, if_neg (by omega), pc9, if_neg (by omega), pc9, if_neg (by omega), pc9, if_neg (by omega)]; exact p3
  · rw [pc9, if_neg (by omega), pc9, if_neg (by omega), pc9, if_neg (by omega), pc9, if_neg (by omega), pc9, if_neg (by omega), pc9, if_neg (by omega)]; exact p4
  · rw [pc9, if_neg (by omega), pc9, if_neg (by omega), pc9, if_pos ⟨rfl, rfl, rfl⟩, pc9, if_pos ⟨rfl, rfl, rfl⟩]
  · have e1 : hs_sg (hs_sg (hs_sg ρ 11 q 8 c) 12 q j lo) 13 q j hi_ 12 q i = if i = j then lo else ρ 12 q i := by
      rw [pc9, if_neg (by omega), sgv, show hs_sg ρ 11 q 8 c 12 q i = ρ 12 q i by rw [pc9, if_neg (by omega)]]
    have e2 : hs_sg (hs_sg (hs_sg ρ 11 q 8 c) 12 q j lo) 13 q j hi_ 13 q i = if i = j then hi_ else ρ 13 q i := by
      rw [sgv, show hs_sg (hs_sg ρ 11 q 8 c) 12 q j lo 13 q i = ρ 13 q i by rw [pc9, if_neg (by omega), pc9, if_neg (by omega)]]
    have e3 : hs_sg (hs_sg (hs_sg σ 7 q j lo) 8 q j hi_) 4 q 7 c 7 q i = if i = j then lo else σ 7 q i := by
      rw [pc9, if_neg (by omega), pc9, if_neg (by omega), sgv]
    have e4 : hs_sg (hs_sg (hs_sg σ 7 q j lo) 8 q j hi_) 4 q 7 c 8 q i = if i = j then hi_ else σ 8 q i := by
      rw [pc9, if_neg (by omega), sgv, show hs_sg σ 7 q j lo 8 q i = σ 8 q i by rw [pc9, if_neg (by omega)]]
    rw [e1, e2, e3, e4]
    by_cases e : i = j
    · rw [if_pos e, if_pos e, if_pos e, if_pos e]
      exact ⟨rfl, rfl, h1, h2, h3⟩
    · rw [if_neg e, if_neg e, if_neg e, if_neg e]
      exact p6 i hi
theorem mrL.learns (h : mrL P F R N σ ρ) (hq : q < P) {j : Nat} (hj : j < 6) {v er : Int32} (hv : I_ v 0 99) (he : I_ er 0 20) : mrL P F R N (sp_learn σ q j (if v - er < 0 then 0 else v - er) (if 99 < v + er then 99 else v + er)) (mp_meas ρ q j v er) ∧ ∃ lo hi_ c, sp_learn σ q j (if v - er < 0 then 0 else v - er) (if 99 < v + er then 99 else v + er) = hs_sg (hs_sg (hs_sg σ 7 q j lo) 8 q j hi_) 4 q 7 c ∧ mp_meas ρ q j v er = hs_sg (hs_sg (hs_sg ρ 11 q 8 c) 12 q j lo) 13 q j hi_ := by
  obtain ⟨l1, l2, l3⟩ := sp_lo hv he
  obtain ⟨g1, g2, g3⟩ := sp_hi hv he
  obtain ⟨p1, p2, p3, p4, p5, p6⟩ := h.2.2.1 q hq
  obtain ⟨w1, w2, w3, w4, w5⟩ := p6 j hj
  rw [l1, g1]
  have es : sp_learn σ q j (mp_held (v - er) 99) (mp_held (v + er) 99) = if mp_max (mp_held (v - er) 99) (σ 7 q j) ≤ mp_min (mp_held (v + er) 99) (σ 8 q j) then hs_sg (hs_sg (hs_sg σ 7 q j (mp_max (mp_held (v - er) 99) (σ 7 q j))) 8 q j (mp_min (mp_held (v + er) 99) (σ 8 q j))) 4 q 7 (σ 4 q 7 + 0) else hs_sg (hs_sg (hs_sg σ 7 q j (mp_held (v - er) 99)) 8 q j (mp_held (v + er) 99)) 4 q 7 (σ 4 q 7 + 1) := by
    unfold sp_learn
    rw [sp_mx, sp_mn]
  rw [es]
  unfold mp_meas mp_clash
  rw [w1, w2, p5]
  by_cases a : mp_max (mp_held (v - er) 99) (σ 7 q j) ≤ mp_min (mp_held (v + er) 99) (σ 8 q j)
  · rw [if_pos a, if_neg (fun z => z a)]
    exact ⟨h.learnt hq hj (mx_I l2 w3) (mn_I g2 w4) (by rw [tI_le] at a; exact a), _, _, _, rfl, rfl⟩
  · rw [if_neg a, if_pos a]
    exact ⟨h.learnt hq hj l2 g2 (Int.le_trans l3 g3), _, _, _, rfl, rfl⟩
def cl_measure (P : Nat) (σ : hs_St) (x y v er : Int32) : cl_X := if mp_in x 0 (nI P - 1) = 0 then (1, 0, σ) else if mp_in y 0 5 = 0 then (1, 0, σ) else if mp_in v 0 99 = 0 then (2, 0, σ) else if mp_in er 0 20 = 0 then (2, 0, σ) else (0, sp_learn σ x.toNatClampNeg y.toNatClampNeg (if v - er < 0 then 0 else v - er) (if 99 < v + er then 99 else v + er) 8 x.toNatClampNeg y.toNatClampNeg - sp_learn σ x.toNatClampNeg y.toNatClampNeg (if v - er < 0 then 0 else v - er) (if 99 < v + er then 99 else v + er) 7 x.toNatClampNeg y.toNatClampNeg, sp_learn σ x.toNatClampNeg y.toNatClampNeg (if v - er < 0 then 0 else v - er) (if 99 < v + er then 99 else v + er))
theorem sim_measure {x y v er : Int32} (h : mr P F R N σ ρ) (hp : mp_measureP P ρ x y v er b X) : sim R N (cl_measure P σ x y v er) b X := by
  unfold mp_measureP at hp
  unfold cl_measure
  by_cases c1 : mp_in x 0 (nI P - 1) = 0
  · rw [if_pos c1] at hp ⊢
    exact sim_err h 1 (by decide) hp.2
  · rw [if_neg c1] at hp ⊢
    by_cases c2 : mp_in y 0 5 = 0
    · rw [if_pos c2] at hp ⊢
      exact sim_err h 1 (by decide) hp.2
    · rw [if_neg c2] at hp ⊢
      by_cases c3 : mp_in v 0 99 = 0
      · rw [if_pos c3] at hp ⊢
        exact sim_err h 2 (by decide) hp.2
      · rw [if_neg c3] at hp ⊢
        by_cases c4 : mp_in er 0 20 = 0
        · rw [if_pos c4] at hp ⊢
          exact sim_err h 2 (by decide) hp.2
        · rw [if_neg c4] at hp ⊢
          have h10 := h.2.2.1.1.1
          obtain ⟨q, hq, rfl⟩ := mp_in_ix (by omega) c1
          have cq : (nI q).toNatClampNeg = q := nI_clamp (by omega)
          rw [cq] at hp ⊢
          obtain ⟨j, hj, rfl⟩ := mp_in_le (n := 5) (by decide) c2
          have cj : (nI j).toNatClampNeg = j := nI_clamp (by omega)
          rw [cj] at hp ⊢
          obtain ⟨hl, lo, hi_, c, es, em⟩ := h.2.2.1.learns hq (show j < 6 by omega) (mp_in_I c3) (mp_in_I c4)
          obtain ⟨w1, w2, -⟩ := (hl.2.2.1 q hq).2.2.2.2.2 j (by omega)
          rw [← w1, ← w2, hp.1]
          rw [es, em] at hl
          rw [em] at hp
          rw [es]
          refine sim_ok ((h.put hl (fun j h3 h6 => by rw [pc9, if_neg (by omega), pc9, if_neg (by omega), pc9, if_neg (by omega)]) (fun j h3 h6 => by rw [pc9, if_neg (by omega), pc9, if_neg (by omega), pc9, if_neg (by omega)]) (fun k i j y => by unfold dS at y; rw [pc9, if_neg (by omega), pc9, if_neg (by omega), pc9, if_neg (by omega)]) (fun k i j y => by unfold dR at y; rw [pc9, if_neg (by omega), pc9, if_neg (by omega), pc9, if_neg (by omega)])).up (Nat.le_succ N)) (Nat.le_refl _) ?_ hp.2
          rfl
def cl_pay (P : Nat) (σ : hs_St) (x : Int32) : cl_X := if mp_in x 0 (nI P - 1) = 0 then (1, 0, σ) else (0, σ 4 x.toNatClampNeg 6, hs_sg (hs_sg σ 4 x.toNatClampNeg 6 0) 0 0 7 (σ 0 0 7 - σ 4 x.toNatClampNeg 6))
theorem sim_pay {x : Int32} (h : mr P F R N σ ρ) (hp : if mp_in x 0 (nI P - 1) = 0 then (0 : Int32) = b ∧ (1 : Int32) = X.1 ∧ ρ = X.2 else ρ 11 x.toNatClampNeg 7 = b ∧ (0 : Int32) = X.1 ∧ hs_sg (hs_sg ρ 11 x.toNatClampNeg 7 0) 0 0 12 (ρ 0 0 12 - ρ 11 x.toNatClampNeg 7) = X.2) : sim R N (cl_pay P σ x) b X := by
  unfold cl_pay
  by_cases c1 : mp_in x 0 (nI P - 1) = 0
  · rw [if_pos c1] at hp ⊢
    exact sim_err h 1 (by decide) hp.2
  · rw [if_neg c1] at hp ⊢
    have h10 := h.2.2.1.1.1
    obtain ⟨q, hq, rfl⟩ := mp_in_ix (by omega) c1
    have cq : (nI q).toNatClampNeg = q := nI_clamp (by omega)
    rw [cq] at hp ⊢
    have p4 := (h.2.2.1.2.2.1 q hq).2.2.2.1
    have s2 := h.2.2.1.2.1.2.1
    rw [p4, s2] at hp
    refine sim_ok ((h.put ((h.2.2.1.due_ hq 0).money (σ 0 0 7 - σ 4 q 6)) (fun j h3 h6 => by rw [pc9, if_neg (by omega), pc9, if_neg (by omega)]) (fun j h3 h6 => by rw [pc9, if_neg (by omega), pc9, if_neg (by omega)]) (fun k i j y => by unfold dS at y; rw [pc9, if_neg (by omega), pc9, if_neg (by omega)]) (fun k i j y => by unfold dR at y; rw [pc9, if_neg (by omega), pc9, if_neg (by omega)])).up (Nat.le_succ N)) (Nat.le_refl _) ?_ hp.2
    exact hp.1
end SIM
