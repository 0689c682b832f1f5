/-! SIDE BY SIDE: frames, work, months -/
section RELW
variable {P F R N q f : Nat} {σ ρ σ' ρ' : hs_St}
theorem rP.same (h : rP σ ρ q) (h4 : ∀ j, σ' 4 q j = σ 4 q j) (h5 : ∀ j, σ' 5 q j = σ 5 q j) (h6 : ∀ j, σ' 6 q j = σ 6 q j) (h7 : ∀ j, σ' 7 q j = σ 7 q j) (h8 : ∀ j, σ' 8 q j = σ 8 q j) (g1 : ∀ j, ρ' 11 q j = ρ 11 q j) (g2 : ∀ j, ρ' 12 q j = ρ 12 q j) (g3 : ∀ j, ρ' 13 q j = ρ 13 q j) : rP σ' ρ' q := by
  have e4 : σ' 4 q = σ 4 q := funext h4
  have e5 : σ' 5 q = σ 5 q := funext h5
  have e6 : σ' 6 q = σ 6 q := funext h6
  have e7 : σ' 7 q = σ 7 q := funext h7
  have e8 : σ' 8 q = σ 8 q := funext h8
  have d1 : ρ' 11 q = ρ 11 q := funext g1
  have d2 : ρ' 12 q = ρ 12 q := funext g2
  have d3 : ρ' 13 q = ρ 13 q := funext g3
  unfold rP
  rw [e4, e5, e6, e7, e8, d1, d2, d3]
  exact h
theorem rF.same (h : rF P R (σ 9 f) (ρ 14 f)) (h9 : ∀ j, σ' 9 f j = σ 9 f j) (g9 : ∀ j, ρ' 14 f j = ρ 14 f j) : rF P R (σ' 9 f) (ρ' 14 f) := by
  rw [show σ' 9 f = σ 9 f from funext h9, show ρ' 14 f = ρ 14 f from funext g9]
  exact h
theorem rS.same (h : rS N σ ρ) (h0 : ∀ j, 6 ≤ j → σ' 0 0 j = σ 0 0 j) (g0 : ∀ j, 9 ≤ j → ρ' 0 0 j = ρ 0 0 j) : rS N σ' ρ' := by
  unfold rS
  rw [h0 6 (by decide), h0 7 (by decide), h0 8 (by decide), h0 9 (by decide), h0 10 (by decide), g0 9 (by decide), g0 10 (by decide), g0 11 (by decide), g0 12 (by decide), g0 13 (by decide)]
  exact h
theorem rR.same {r : Nat} (h : rR σ ρ r) (h0 : σ' 10 r 0 = σ 10 r 0) (h1 : σ' 10 r 1 = σ 10 r 1) (g5 : ρ' 5 0 r = ρ 5 0 r) (g6 : ρ' 6 0 r = ρ 6 0 r) : rR σ' ρ' r := by
  unfold rR
  rw [h0, h1, g5, g6]
  exact h
/-- one figure's row alone is another -/
theorem mrL.setF (h : mrL P F R N σ ρ) (hs : ∀ k i j, ¬ (k = 9 ∧ i = f) → σ' k i j = σ k i j) (gs : ∀ k i j, ¬ (k = 14 ∧ i = f) → ρ' k i j = ρ k i j) (hf : rF P R (σ' 9 f) (ρ' 14 f)) : mrL P F R N σ' ρ' := by
  refine ⟨h.1, h.2.1.same (fun j _ => hs _ _ _ (by omega)) (fun j _ => gs _ _ _ (by omega)), fun q hq => (h.2.2.1 q hq).same (fun j => hs _ _ _ (by omega)) (fun j => hs _ _ _ (by omega)) (fun j => hs _ _ _ (by omega)) (fun j => hs _ _ _ (by omega)) (fun j => hs _ _ _ (by omega)) (fun j => gs _ _ _ (by omega)) (fun j => gs _ _ _ (by omega)) (fun j => gs _ _ _ (by omega)), fun g hg => ?_, fun r hr => (h.2.2.2.2 r hr).same (hs _ _ _ (by omega)) (hs _ _ _ (by omega)) (gs _ _ _ (by omega)) (gs _ _ _ (by omega))⟩
  by_cases e : g = f
  · subst e
    exact hf
  · exact (h.2.2.2.1 g hg).same (fun j => hs _ _ _ (by omega)) (fun j => gs _ _ _ (by omega))
theorem sp_width_same (h7 : ∀ j, σ' 7 q j = σ 7 q j) (h8 : ∀ j, σ' 8 q j = σ 8 q j) : ∀ n, sp_width σ' q n = sp_width σ q n
  | 0 => rfl
  | n + 1 => by rw [sp_width, sp_width, sp_width_same h7 h8 n, h7, h8]
theorem sp_doubt_same (h7 : ∀ j, σ' 7 q j = σ 7 q j) (h8 : ∀ j, σ' 8 q j = σ 8 q j) : sp_doubt σ' q = sp_doubt σ q := by
  unfold sp_doubt
  rw [sp_width_same h7 h8]
theorem mp_width_same (h7 : ∀ j, ρ' 12 q j = ρ 12 q j) (h8 : ∀ j, ρ' 13 q j = ρ 13 q j) : ∀ n, mp_width ρ' q n = mp_width ρ q n
  | 0 => rfl
  | n + 1 => by rw [mp_width, mp_width, mp_width_same h7 h8 n, h7, h8]
theorem mp_doubt_same (h7 : ∀ j, ρ' 12 q j = ρ 12 q j) (h8 : ∀ j, ρ' 13 q j = ρ 13 q j) : mp_doubt ρ' q = mp_doubt ρ q := by
  unfold mp_doubt
  rw [mp_width_same h7 h8]
/-- what a step needs, twice told -/
theorem wk_needs {j : Nat} (hj : j < 6) : mp_needs j = hs_wk j ∧ 2 ≤ (hs_wk j).toInt ∧ (hs_wk j).toInt ≤ 12 := by
  rcases (show j = 0 ∨ j = 1 ∨ j = 2 ∨ j = 3 ∨ j = 4 ∨ j = 5 by omega) with rfl | rfl | rfl | rfl | rfl | rfl <;> exact ⟨rfl, by decide, by decide⟩
/-- the climb, side by side: class with all its work, reference with what is over and what is left -/
def rC (τ ρ : hs_St) (f j : Nat) (w : Int32) : Prop := τ 9 f 2 = nI j ∧ ρ 14 f 2 = nI j ∧ I_ w 0 9 ∧ (j < 6 → I_ (ρ 14 f 3) 1 ((hs_wk j).toInt) ∧ (τ 9 f 3).toInt = w.toInt + ((hs_wk j).toInt - (ρ 14 f 3).toInt)) ∧ (j = 6 → ρ 14 f 3 = 0) ∧ ρ 14 f 5 = τ 9 f 5 ∧ I_ (τ 9 f 5) 0 99
theorem nI6 {j : Nat} (hj : j ≤ 6) : (6 : Int32) ≤ nI j ↔ j = 6 := by
  rw [sp_six, nI_leI (by decide) (by omega)]
  omega
theorem rC.step {τ : hs_St} {j : Nat} {w : Int32} (hj : j < 6) (h : rC τ ρ f j w) (hd : sp_doubt τ (τ 9 f 0).toNatClampNeg = mp_doubt ρ (ρ 14 f 0).toNatClampNeg ∧ I_ (sp_doubt τ (τ 9 f 0).toNatClampNeg) 0 99) (hle : ¬ w < ρ 14 f 3) : rC (sp_step τ f) (mp_step ρ f) f (j + 1) (w - ρ 14 f 3) := by
  obtain ⟨h1, h2, h3, h4, -, h6, h7⟩ := h
  obtain ⟨h4a, h4b⟩ := h4 hj
  rw [tI_lt] at hle
  have w1 := h3.1; have w2 := h3.2; have l1 := h4a.1; have l2 := h4a.2
  obtain ⟨k1, k2, k3⟩ := wk_needs hj
  have es : τ 9 f 2 + 1 = nI (j + 1) := by rw [h1, nI_1]
  have er : ρ 14 f 2 + 1 = nI (j + 1) := by rw [h2, nI_1]
  have ew : (w - ρ 14 f 3).toInt = w.toInt - (ρ 14 f 3).toInt := tI_sub (by omega) (by omega)
  have cl : (nI (j + 1)).toNatClampNeg = j + 1 := nI_clamp (by omega)
  have clj : (nI j).toNatClampNeg = j := nI_clamp (by omega)
  have t2 : sp_step τ f 9 f 2 = nI (j + 1) := by rw [sp_step_at, es]
  have r2 : mp_step ρ f 14 f 2 = nI (j + 1) := by rw [mp_step_2, er]
  have t3 : sp_step τ f 9 f 3 = τ 9 f 3 - hs_wk j := by
    unfold sp_step sp_put
    rw [h1, clj]
    split
    · rw [pc9, if_neg (by omega), pc9, if_neg (by omega), pc9, if_pos ⟨rfl, rfl, rfl⟩]
    · rw [pc9, if_neg (by omega), pc9, if_pos ⟨rfl, rfl, rfl⟩]
  have r3 : mp_step ρ f 14 f 3 = mp_needs (j + 1) := by
    unfold mp_step mp_put
    rw [er, cl]
    split
    · rw [pc9, if_neg (by omega), pc9, if_pos ⟨rfl, rfl, rfl⟩]
    · rw [pc9, if_pos ⟨rfl, rfl, rfl⟩]
  have e3 : (τ 9 f 3 - hs_wk j).toInt = w.toInt - (ρ 14 f 3).toInt := by
    rw [tI_sub (by omega) (by omega)]
    omega
  have t5 : sp_step τ f 9 f 5 = if nI (j + 1) = 1 then sp_doubt τ (τ 9 f 0).toNatClampNeg else τ 9 f 5 := by
    unfold sp_step
    rw [es]
    split
    · rw [pc9, if_pos ⟨rfl, rfl, rfl⟩]
      exact sp_doubt_same (fun j => by unfold sp_put; rw [pc9, if_neg (by omega), pc9, if_neg (by omega)]) (fun j => by unfold sp_put; rw [pc9, if_neg (by omega), pc9, if_neg (by omega)])
    · unfold sp_put
      rw [pc9, if_neg (by omega), pc9, if_neg (by omega)]
  have r5 : mp_step ρ f 14 f 5 = if nI (j + 1) = 1 then mp_doubt ρ (ρ 14 f 0).toNatClampNeg else ρ 14 f 5 := by
    unfold mp_step
    rw [er]
    split
    · rw [pc9, if_pos ⟨rfl, rfl, rfl⟩]
    · unfold mp_put
      rw [pc9, if_neg (by omega), pc9, if_neg (by omega)]
  refine ⟨t2, r2, ⟨by rw [ew]; omega, by rw [ew]; omega⟩, fun hj5 => ?_, fun hj6 => ?_, ?_, ?_⟩
  · obtain ⟨m1, m2, m3⟩ := wk_needs hj5
    rw [r3, m1, t3, e3, ew]
    exact ⟨⟨by omega, Int.le_refl _⟩, by omega⟩
  · rw [r3, hj6]
    rfl
  · rw [t5, r5, hd.1, h6]
  · rw [t5]
    split
    · exact hd.2
    · exact h7
theorem rC.climb {P : Nat} : ∀ (k j : Nat) (τ ρ : hs_St) (w : Int32), j + k = 6 → rC τ ρ f j w → (sp_doubt τ (τ 9 f 0).toNatClampNeg = mp_doubt ρ (ρ 14 f 0).toNatClampNeg ∧ I_ (sp_doubt τ (τ 9 f 0).toNatClampNeg) 0 99) → ∃ j', j ≤ j' ∧ j' ≤ 6 ∧ rC (sp_climb f k τ) (mp_climb f k w ρ).2 f j' (mp_climb f k w ρ).1 ∧ (j' < 6 → (mp_climb f k w ρ).1 < (mp_climb f k w ρ).2 14 f 3) := by
  intro k
  induction k with
  | zero =>
    intro j τ ρ w hj h hd
    exact ⟨j, Nat.le_refl _, by omega, h, fun z => by omega⟩
  | succ k ih =>
    intro j τ ρ w hj h hd
    have hj6 : j < 6 := by omega
    obtain ⟨h1, h2, h3, h4, h5, h6, h7⟩ := id h
    obtain ⟨h4a, h4b⟩ := h4 hj6
    have n6 : ¬ (6 : Int32) ≤ nI j := fun z => by have := (nI6 (by omega)).mp z; omega
    have c1 : (τ 9 f 3 < hs_wk j) ↔ w < ρ 14 f 3 := by
      rw [tI_lt, tI_lt, h4b]
      omega
    have clj : (nI j).toNatClampNeg = j := nI_clamp (by omega)
    rw [sp_climb, mp_climb, h1, h2, if_neg n6, clj]
    by_cases a : w < ρ 14 f 3
    · rw [if_pos a, if_pos (c1.mpr a)]
      exact ⟨j, Nat.le_refl _, by omega, h, fun _ => a⟩
    · rw [if_neg a, if_neg (fun z => a (c1.mp z)), if_neg n6]
      have hs := h.step hj6 hd a
      obtain ⟨j', i1, i2, i3, i4⟩ := ih (j + 1) _ _ _ (by omega) hs (by
        rw [sp_step_off τ f 9 f 0 (Or.inr (by omega)), mp_step_off ρ f 14 f 0 (by omega)]
        rw [sp_doubt_same (fun j => sp_step_off τ f 7 _ j (Or.inl (by omega))) (fun j => sp_step_off τ f 8 _ j (Or.inl (by omega)))]
        rw [mp_doubt_same (fun j => mp_step_off ρ f 12 _ j (by omega)) (fun j => mp_step_off ρ f 13 _ j (by omega))]
        exact hd)
      exact ⟨j', by omega, i2, i3, i4⟩
/-- a day's hands on one figure -/
theorem mrL.work (h : mrL P F R N σ ρ) (hf : f < F) (h6 : ¬ 6 ≤ ρ 14 f 2) (h7 : ¬ ρ 14 f 7 = 7) : (sp_wd σ f).1 = (mp_work ρ f).1 ∧ ((mp_work ρ f).1 = 0 ∨ (mp_work ρ f).1 = 1) ∧ mrL P F R N (sp_wd σ f).2 (mp_work ρ f).2 := by
  have hF := h.2.2.2.1 f hf
  obtain ⟨⟨hh, k0, a0, b0⟩, hB, ⟨j, hj, e1, e2, e3, e4⟩, ⟨eh, ih⟩, ⟨ef, if_⟩, ew, ⟨ea, hp⟩, el, ed, et⟩ := id hF
  have hj6 : j < 6 := by
    rw [e2] at h6
    rcases Nat.lt_or_ge j 6 with z | z
    · exact z
    · exact absurd ((nI6 hj).mpr (by omega)) h6
  obtain ⟨i3, q3⟩ := e3 hj6
  have clj : (nI j).toNatClampNeg = j := nI_clamp (by omega)
  have n6 : ¬ (6 : Int32) ≤ nI j := fun z => by have := (nI6 (by omega)).mp z; omega
  obtain ⟨k1, k2, k3⟩ := wk_needs hj6
  have w1 := i3.1; have w2 := i3.2; have g1 := ih.1; have g2 := ih.2
  have h7' : ¬ σ 9 f 7 = 7 := by rw [← ea]; exact h7
  -- the start
  have t3 : (hs_sg σ 9 f 3 (σ 9 f 3 + σ 9 f 4)) 9 f 3 = σ 9 f 3 + σ 9 f 4 := by rw [pc9, if_pos ⟨rfl, rfl, rfl⟩]
  have toff : ∀ k i j, ¬ (k = 9 ∧ i = f ∧ j = 3) → (hs_sg σ 9 f 3 (σ 9 f 3 + σ 9 f 4)) k i j = σ k i j := fun k i j z => by rw [pc9, if_neg z]
  have hstart : rC (hs_sg σ 9 f 3 (σ 9 f 3 + σ 9 f 4)) ρ f j (ρ 14 f 4) := by
    refine ⟨by rw [toff _ _ _ (by omega)]; exact e1, e2, by rw [eh]; exact ih, fun _ => ?_, fun z => by omega, by rw [toff _ _ _ (by omega)]; exact ef, by rw [toff _ _ _ (by omega)]; exact if_⟩
    have el : (hs_wk j - σ 9 f 3).toInt = (hs_wk j).toInt - (σ 9 f 3).toInt := tI_sub (by omega) (by omega)
    rw [t3, q3, eh, el, tI_add (by omega) (by omega)]
    refine ⟨⟨by rw [el]; omega, by rw [el]; omega⟩, by omega⟩
  have hc0 : (σ 9 f 0).toNatClampNeg = hh := by rw [a0]; exact nI_clamp (by have := h.1.1; omega)
  have hc1 : (ρ 14 f 0).toNatClampNeg = hh := by rw [b0]; exact nI_clamp (by have := h.1.1; omega)
  have hdb := (h.2.2.1 hh k0).doubt
  obtain ⟨j', i1, i2, i4, i5⟩ := hstart.climb (P := P) (6 - j) j _ _ _ (by omega) (by
    rw [toff _ _ _ (by omega), hc0, hc1]
    rw [sp_doubt_same (fun j => toff _ _ _ (by omega)) (fun j => toff _ _ _ (by omega))]
    exact hdb)
  have es : sp_wd σ f = sp_fin (sp_climb f (6 - j) (hs_sg σ 9 f 3 (σ 9 f 3 + σ 9 f 4))) f := by
    unfold sp_wd
    rw [e1, if_neg n6, if_neg h7', clj]
  have em : mp_work ρ f = mp_fin f (mp_climb f (6 - j) (ρ 14 f 4) ρ) := by
    unfold mp_work
    rw [e2, clj]
  have fs := fun k i j => sp_wd_off σ f k i j
  have fr := fun k i j => mp_work_off ρ f k i j
  rw [es] at fs
  rw [em] at fr
  rw [es, em]
  have cs := fun k i jj (z : ¬ (k = 9 ∧ i = f) ∨ ¬ (jj = 2 ∨ jj = 3 ∨ jj = 5)) => sp_climb_off f k i jj z (6 - j) (hs_sg σ 9 f 3 (σ 9 f 3 + σ 9 f 4))
  have cr := fun k i jj (z : ¬ (k = 14 ∧ i = f ∧ (jj = 2 ∨ jj = 3 ∨ jj = 5))) => mp_climb_off f k i jj z (6 - j) (ρ 14 f 4) ρ
  generalize sp_climb f (6 - j) (hs_sg σ 9 f 3 (σ 9 f 3 + σ 9 f 4)) = τ at *
  generalize mp_climb f (6 - j) (ρ 14 f 4) ρ = Y at *
  obtain ⟨c1, c2, c3, c4, c5, c6, c7⟩ := i4
  by_cases j6 : j' = 6
  · subst j6
    have l6 : (6 : Int32) ≤ nI 6 := by decide
    have fin1 : sp_fin τ f = (1, hs_sg (hs_sg τ 9 f 3 0) 9 f 4 0) := by
      unfold sp_fin
      rw [c1, if_pos l6]
    have fin2 : mp_fin f Y = (1, hs_sg Y.2 14 f 4 0) := by
      unfold mp_fin
      rw [c2, if_pos l6]
    rw [fin1] at fs
    rw [fin2] at fr
    rw [fin1, fin2]
    refine ⟨rfl, Or.inr rfl, h.setF (fun k i jj z => fs k i jj (Or.inl z)) (fun k i jj z => fr k i jj (by omega)) ?_⟩
    have s_ : ∀ jj, ¬ (jj = 2 ∨ jj = 3 ∨ jj = 4 ∨ jj = 5) → hs_sg (hs_sg τ 9 f 3 0) 9 f 4 0 9 f jj = σ 9 f jj := fun jj z => fs _ _ _ (Or.inr z)
    have r_ : ∀ jj, ¬ (jj = 2 ∨ jj = 3 ∨ jj = 4 ∨ jj = 5) → hs_sg Y.2 14 f 4 0 14 f jj = ρ 14 f jj := fun jj z => fr _ _ _ (by omega)
    have s2 : hs_sg (hs_sg τ 9 f 3 0) 9 f 4 0 9 f 2 = nI 6 := by rw [pc9, if_neg (by omega), pc9, if_neg (by omega)]; exact c1
    have s3 : hs_sg (hs_sg τ 9 f 3 0) 9 f 4 0 9 f 3 = 0 := by rw [pc9, if_neg (by omega), pc9, if_pos ⟨rfl, rfl, rfl⟩]
    have s4 : hs_sg (hs_sg τ 9 f 3 0) 9 f 4 0 9 f 4 = 0 := by rw [pc9, if_pos ⟨rfl, rfl, rfl⟩]
    have s5 : hs_sg (hs_sg τ 9 f 3 0) 9 f 4 0 9 f 5 = τ 9 f 5 := by rw [pc9, if_neg (by omega), pc9, if_neg (by omega)]
    have r2 : hs_sg Y.2 14 f 4 0 14 f 2 = nI 6 := by rw [pc9, if_neg (by omega)]; exact c2
    have r3 : hs_sg Y.2 14 f 4 0 14 f 3 = 0 := by rw [pc9, if_neg (by omega)]; exact c5 rfl
    have r4 : hs_sg Y.2 14 f 4 0 14 f 4 = 0 := by rw [pc9, if_pos ⟨rfl, rfl, rfl⟩]
    have r5 : hs_sg Y.2 14 f 4 0 14 f 5 = Y.2 14 f 5 := by rw [pc9, if_neg (by omega)]
    show rF P R (hs_sg (hs_sg τ 9 f 3 0) 9 f 4 0 9 f) (hs_sg Y.2 14 f 4 0 14 f)
    unfold rF
    rw [s_ 0 (by omega), s_ 1 (by omega), s2, s3, s4, s5, s_ 6 (by omega), s_ 7 (by omega), s_ 8 (by omega), s_ 9 (by omega), s_ 10 (by omega), r_ 0 (by omega), r_ 1 (by omega), r2, r3, r4, r5, r_ 6 (by omega), r_ 7 (by omega), r_ 8 (by omega), r_ 9 (by omega), r_ 10 (by omega)]
    refine ⟨⟨hh, k0, a0, b0⟩, hB, ⟨6, Nat.le_refl _, rfl, rfl, fun z => by omega, fun _ => ⟨rfl, rfl, rfl⟩⟩, ⟨rfl, by decide, by decide⟩, ⟨c6, c7⟩, ew, ⟨ea, ?_⟩, el, ed, et⟩
    rcases hp with ⟨r, hr, z1, z2⟩ | z | z | z
    · exact absurd ((nI6 hj).mp (by rw [← e1, z2]; decide)) (by omega)
    · exact Or.inr (Or.inl z)
    · exact Or.inr (Or.inr (Or.inl z))
    · exact absurd z.1 h7'
  · have hj' : j' < 6 := by omega
    have l6 : ¬ (6 : Int32) ≤ nI j' := fun z => by have := (nI6 (by omega)).mp z; omega
    have fin1 : sp_fin τ f = (0, τ) := by
      unfold sp_fin
      rw [c1, if_neg l6]
    have fin2 : mp_fin f Y = (0, hs_sg Y.2 14 f 3 (Y.2 14 f 3 - Y.1)) := by
      unfold mp_fin
      rw [c2, if_neg l6]
    rw [fin1] at fs
    rw [fin2] at fr
    rw [fin1, fin2]
    obtain ⟨d1, d2⟩ := c4 hj'
    have lt := i5 hj'
    rw [tI_lt] at lt
    obtain ⟨m1, m2, m3⟩ := wk_needs hj'
    have x1 := d1.1; have x2 := d1.2; have y1 := c3.1; have y2 := c3.2
    refine ⟨rfl, Or.inl rfl, h.setF (fun k i jj z => fs k i jj (Or.inl z)) (fun k i jj z => fr k i jj (by omega)) ?_⟩
    have s_ : ∀ jj, ¬ (jj = 2 ∨ jj = 3 ∨ jj = 5) → τ 9 f jj = σ 9 f jj := fun jj z => by
      rw [cs 9 f jj (Or.inr z)]
      exact toff _ _ _ (by omega)
    have r_ : ∀ jj, ¬ (jj = 2 ∨ jj = 3 ∨ jj = 5) → hs_sg Y.2 14 f 3 (Y.2 14 f 3 - Y.1) 14 f jj = ρ 14 f jj := fun jj z => by
      rw [pc9, if_neg (by omega)]
      exact cr 14 f jj (by omega)
    have r2 : hs_sg Y.2 14 f 3 (Y.2 14 f 3 - Y.1) 14 f 2 = nI j' := by rw [pc9, if_neg (by omega)]; exact c2
    have r3 : hs_sg Y.2 14 f 3 (Y.2 14 f 3 - Y.1) 14 f 3 = Y.2 14 f 3 - Y.1 := by rw [pc9, if_pos ⟨rfl, rfl, rfl⟩]
    have r5 : hs_sg Y.2 14 f 3 (Y.2 14 f 3 - Y.1) 14 f 5 = Y.2 14 f 5 := by rw [pc9, if_neg (by omega)]
    show rF P R (τ 9 f) (hs_sg Y.2 14 f 3 (Y.2 14 f 3 - Y.1) 14 f)
    unfold rF
    rw [s_ 0 (by omega), s_ 1 (by omega), c1, s_ 4 (by omega), s_ 6 (by omega), s_ 7 (by omega), s_ 8 (by omega), s_ 9 (by omega), s_ 10 (by omega), r_ 0 (by omega), r_ 1 (by omega), r2, r3, r_ 4 (by omega), r5, r_ 6 (by omega), r_ 7 (by omega), r_ 8 (by omega), r_ 9 (by omega), r_ 10 (by omega)]
    refine ⟨⟨hh, k0, a0, b0⟩, hB, ⟨j', by omega, rfl, rfl, fun _ => ⟨⟨by omega, by omega⟩, ?_⟩, fun z => by omega⟩, ⟨eh, ih⟩, ⟨c6, c7⟩, ew, ⟨ea, ?_⟩, el, ed, et⟩
    rotate_left
    · rcases hp with ⟨r, hr, z1, z2⟩ | z
      · exact absurd ((nI6 hj).mp (by rw [← e1, z2]; decide)) (by omega)
      · exact Or.inr z
    apply tI_eq
    rw [tI_sub (by omega) (by omega), tI_sub (by omega) (by omega)]
    omega
end RELW
