/-! SIDE BY SIDE: all figures' wear, tours, the day, days that go by, what would be melted -/
section RELE
variable {P F R N q f : Nat} {σ ρ σ' ρ' : hs_St}
theorem sp_wearAll_off (σ : hs_St) (x y z : Int32) (k i j : Nat) (h4 : ¬ k = 4) : ∀ n, ¬ (k = 9 ∧ i < n) → (sp_wearAll σ x y z n).2 k i j = σ k i j := by
  intro n
  induction n with
  | zero => exact fun _ => rfl
  | succ n ih =>
    intro h
    have i1 := ih (by omega)
    rw [sp_wearAll]
    split
    · exact i1
    · show (sp_wear (sp_wearAll σ x y z n).2 n _ _ z).2 k i j = _
      rw [sp_wear_off _ _ _ _ _ _ _ _ (by omega) h4]
      exact i1
theorem mp_touch_at (ρ : hs_St) (all come : Int32) (i : Nat) : ∀ n, i < n → mp_touch ρ all come n i = if all = 0 then 0 else come * mp_draw ρ i / all := by
  intro n
  induction n with
  | zero => exact fun h => absurd h (Nat.not_lt_zero _)
  | succ n ih =>
    intro h
    rw [mp_touch]
    unfold upd
    by_cases e : i = n
    · subst e
      rw [if_pos rfl]
    · rw [if_neg e]
      exact ih (by omega)
theorem I_touch {x y w : Int32} (hx : I_ x 0 2000) (hw : I_ w 0 999) (hy : 0 ≤ y.toInt) : (if y ≤ 0 then 0 else x * w / y) = (if y = 0 then 0 else x * w / y) ∧ I_ (if y = 0 then 0 else x * w / y) 0 2000000 := by
  by_cases e : y = 0
  · subst e
    rw [if_pos (by decide), if_pos rfl]
    exact ⟨rfl, by decide, by decide⟩
  · have h0 : 0 < y.toInt := by
      have : ¬ y.toInt = 0 := fun z => e (tI_eq (by rw [z, tI_0]))
      omega
    rw [if_neg (by rw [tI_le, tI_0]; omega), if_neg e]
    refine ⟨rfl, ?_⟩
    have i1 := I_mul hx hw (by decide)
    have i2 := I_div i1 h0
    refine I_mono i2 (Int.le_refl _) ?_
    exact Int.le_trans (Int.ediv_le_self _ (by decide)) (by decide)
theorem mrL.wears (h : mrL P F R N σ ρ) {x y z c : Int32} {g : Nat → Int32} (hz : I_ z 0 40) (hg : ∀ n, n < F → sp_touch σ x y n = g n ∧ I_ (g n) 0 2000000) : ∀ n, n ≤ F → (mp_wears ρ g z c n).1 = c + (sp_wearAll σ x y z n).1 ∧ mrL P F R N (sp_wearAll σ x y z n).2 (mp_wears ρ g z c n).2 := by
  intro n
  induction n with
  | zero => exact fun _ => ⟨(Int32.add_zero c).symm, h⟩
  | succ n ih =>
    intro hn
    obtain ⟨i1, i2⟩ := ih (by omega)
    have hs := (i2.2.2.2.1 n (by omega)).shown i2.1.2.2
    rw [sp_wearAll, mp_wears, hs]
    by_cases a : mp_isShown (mp_wears ρ g z c n).2 n = 0
    · rw [if_pos a, if_pos a]
      exact ⟨by show (mp_wears ρ g z c n).1 + 0 = _; rw [Int32.add_zero]; exact i1, i2⟩
    · rw [if_neg a, if_neg a]
      have et : sp_touch (sp_wearAll σ x y z n).2 x y n = g n := by
        rw [← (hg n (by omega)).1]
        unfold sp_touch
        rw [sp_draw_same (σ' := (sp_wearAll σ x y z n).2) (σ := σ) (f := n) (fun j => sp_wearAll_off σ x y z _ _ _ (by decide) n (by omega)) (fun i j => sp_wearAll_off σ x y z _ _ _ (by decide) n (by omega)) (fun i j => sp_wearAll_off σ x y z _ _ _ (by decide) n (by omega)) (fun i j => sp_wearAll_off σ x y z _ _ _ (by decide) n (by omega))]
      rw [et]
      obtain ⟨w1, w2, w3⟩ := i2.wear (by omega) a (hg n (by omega)).2 hz
      refine ⟨?_, w3⟩
      show (mp_wears ρ g z c n).1 + (mp_wear (mp_wears ρ g z c n).2 n ((mp_wears ρ g z c n).2 14 n 0).toNatClampNeg ((mp_wears ρ g z c n).2 14 n 7).toNatClampNeg (g n) z).1 = c + (if (sp_wear (sp_wearAll σ x y z n).2 n (g n) ((sp_wearAll σ x y z n).2 10 ((sp_wearAll σ x y z n).2 9 n 7).toNatClampNeg 0) z).1 = 0 then (sp_wearAll σ x y z n).1 else (sp_wearAll σ x y z n).1 + 1)
      rw [w1, i1]
      rcases w2 with y1 | y1
      · rw [y1, if_pos rfl, Int32.add_zero]
      · rw [y1, if_neg (by decide), Int32.add_assoc]
theorem sp_99 {w : Int32} (h : I_ w 0 100) : (if 99 < w + 2 then 99 else w + 2) = mp_min 99 (w + 2) ∧ I_ (mp_min 99 (w + 2)) 0 100 := by
  have h1 := h.1; have h2 := h.2
  have e : (w + 2).toInt = w.toInt + 2 := tI_add (by rw [tI_2]; omega) (by rw [tI_2]; omega)
  unfold mp_min
  by_cases a : 99 < w + 2
  · rw [if_pos a, if_neg (show ¬ w + 2 < 99 by rw [tI_lt] at a ⊢; omega)]
    exact ⟨rfl, by decide, by decide⟩
  · rw [if_neg a]
    rw [tI_lt, tI_99] at a
    by_cases b : w + 2 < 99
    · rw [if_pos b]
      exact ⟨rfl, by omega, by omega⟩
    · rw [if_neg b]
      rw [tI_lt, tI_99] at b
      exact ⟨tI_eq (by rw [tI_99]; omega), by decide, by decide⟩
theorem mrL.tour (h : mrL P F R N σ ρ) (hf : f < F) (h6 : σ 9 f 7 = 6) : mrL P F R N (hs_sg (sp_tour σ f) 0 0 7 (σ 0 0 7 + sp_earn σ f)) (mp_trip ρ f (ρ 14 f 0).toNatClampNeg (ρ 14 f 9).toNatClampNeg) := by
  have hF := h.2.2.2.1 f hf
  obtain ⟨⟨hh, k0, a0, b0⟩, hB, hstep, eh, ef, ⟨ew, iw⟩, ⟨ea, hp⟩, ⟨el, ⟨a, ha, ea9⟩⟩, ed, et⟩ := id hF
  have hP10 := h.1.1
  have hday : I_ (σ 9 f 9) 1 60 := by
    rcases hp with ⟨r, hr, z, -⟩ | z | z | z
    · exfalso
      rw [h6] at z
      have := nI_inj (a := 6) (b := r) (by decide) (by have := h.1.2.2; omega) z
      have := h.1.2.2
      omega
    · rw [h6] at z; exact absurd z (by decide)
    · exact z.2
    · rw [h6] at z; exact absurd z.1 (by decide)
  have d1 := hday.1; have d2 := hday.2
  have ch : (nI hh).toNatClampNeg = hh := nI_clamp (by omega)
  have ca : (nI a).toNatClampNeg = a := nI_clamp (by omega)
  obtain ⟨f1, -⟩ := (h.2.2.1 hh k0).1 a ha
  obtain ⟨l1, -⟩ := hF.like hP10 h.2.2.1
  obtain ⟨c1, c2⟩ := sp_99 iw
  obtain ⟨s1, s2, s3, s4, s5⟩ := h.2.1
  have earn : sp_earn σ f = ρ 11 hh a * mp_like ρ f / 1000 := by
    unfold sp_earn
    rw [ea9, a0, ch, ca, if_neg (nI_pos (by omega)), if_neg (by rw [sp_three]; exact nI_ge ha (by decide)), f1, l1]
  have dd : (σ 9 f 9 - 1).toInt = (σ 9 f 9).toInt - 1 := tI_sub (by rw [tI_1]; omega) (by rw [tI_1]; omega)
  rw [b0, ch, el, ea9, ca]
  -- the rows
  have to : ∀ k i j, ¬ (k = 9 ∧ i = f ∧ (j = 6 ∨ j = 7 ∨ j = 9)) → sp_tour σ f k i j = σ k i j := fun k i j y => by
    unfold sp_tour
    split
    · rw [pc9, if_neg (by omega), pc9, if_neg (by omega)]
    · rw [pc9, if_neg (by omega), pc9, if_neg (by omega), pc9, if_neg (by omega), pc9, if_neg (by omega)]
  have t6 : sp_tour σ f 9 f 6 = mp_min 99 (σ 9 f 6 + 2) := by
    unfold sp_tour
    split
    · rw [pc9, if_neg (by omega), pc9, if_pos ⟨rfl, rfl, rfl⟩, c1]
    · rw [pc9, if_neg (by omega), pc9, if_neg (by omega), pc9, if_neg (by omega), pc9, if_pos ⟨rfl, rfl, rfl⟩, c1]
  have m1o : ∀ k i j, ¬ (k = 14 ∧ i = f ∧ (j = 6 ∨ j = 8)) → ¬ (k = 0 ∧ i = 0 ∧ j = 12) → mp_trip1 ρ f hh a k i j = ρ k i j := fun k i j y1 y2 => by
    unfold mp_trip1
    rw [pc9, if_neg (by omega), pc9, if_neg (by omega), pc9, if_neg (by omega)]
  have m12 : mp_trip1 ρ f hh a 0 0 12 = ρ 0 0 12 + ρ 11 hh a * mp_like ρ f / 1000 := by
    unfold mp_trip1
    rw [pc9, if_neg (by omega), pc9, if_neg (by omega), pc9, if_pos ⟨rfl, rfl, rfl⟩]
  have m6 : mp_trip1 ρ f hh a 14 f 6 = mp_min 99 (σ 9 f 6 + 2) := by
    unfold mp_trip1
    rw [pc9, if_neg (by omega), pc9, if_pos ⟨rfl, rfl, rfl⟩, ew]
  have m8 : mp_trip1 ρ f hh a 14 f 8 = σ 9 f 9 - 1 := by
    unfold mp_trip1
    rw [pc9, if_pos ⟨rfl, rfl, rfl⟩, ed]
  have mo_ : ∀ k i j, ¬ (k = 14 ∧ i = f ∧ j = 7) → mp_trip ρ f hh a k i j = mp_trip1 ρ f hh a k i j := fun k i j y => by
    unfold mp_trip
    split
    · rw [pc9, if_neg (by omega)]
    · rfl
  have hgoal : mrL P F R N (hs_sg (sp_tour σ f) 0 0 7 (σ 0 0 7 + sp_earn σ f)) (mp_trip ρ f hh a) := by
    have h1 : mrL P F R N (hs_sg σ 0 0 7 (σ 0 0 7 + sp_earn σ f)) (hs_sg ρ 0 0 12 (ρ 0 0 12 + ρ 11 hh a * mp_like ρ f / 1000)) := by
      refine h.setS (fun k i j z => by rw [pc9, if_neg (by omega)]) (fun k i j z => by rw [pc9, if_neg (by omega)]) ?_
      unfold rS
      have a_ : ∀ j v, ¬ j = 7 → hs_sg σ 0 0 7 v 0 0 j = σ 0 0 j := fun j v z => by rw [pc9, if_neg (by omega)]
      have b_ : ∀ j v, ¬ j = 12 → hs_sg ρ 0 0 12 v 0 0 j = ρ 0 0 j := fun j v z => by rw [pc9, if_neg (by omega)]
      have a7 : ∀ v, hs_sg σ 0 0 7 v 0 0 7 = v := fun v => by rw [pc9, if_pos ⟨rfl, rfl, rfl⟩]
      have b12 : ∀ v, hs_sg ρ 0 0 12 v 0 0 12 = v := fun v => by rw [pc9, if_pos ⟨rfl, rfl, rfl⟩]
      rw [a_ 6 _ (by decide), a_ 8 _ (by decide), a_ 9 _ (by decide), a_ 10 _ (by decide), a7, b_ 9 _ (by decide), b_ 10 _ (by decide), b_ 11 _ (by decide), b_ 13 _ (by decide), b12, s2, earn]
      exact ⟨s1, rfl, s3, s4, s5⟩
    refine h1.setF (f := f) (fun k i j y => ?_) (fun k i j y => ?_) ?_
    · rw [pc9, pc9]
      by_cases e : k = 0 ∧ i = 0 ∧ j = 7
      · rw [if_pos e, if_pos e]
      · rw [if_neg e, if_neg e, to _ _ _ (by omega)]
    · rw [mo_ _ _ _ (by omega), pc9]
      by_cases e : k = 0 ∧ i = 0 ∧ j = 12
      · rw [if_pos e]
        obtain ⟨rfl, rfl, rfl⟩ := e
        exact m12
      · rw [if_neg e, m1o _ _ _ (by omega) e]
    · have g_ : ∀ j, hs_sg (sp_tour σ f) 0 0 7 (σ 0 0 7 + sp_earn σ f) 9 f j = sp_tour σ f 9 f j := fun j => by rw [pc9, if_neg (by omega)]
      unfold rF
      rw [g_ 0, g_ 1, g_ 2, g_ 3, g_ 4, g_ 5, g_ 6, g_ 7, g_ 8, g_ 9, g_ 10, to 9 f 0 (by omega), to 9 f 1 (by omega), to 9 f 2 (by omega), to 9 f 3 (by omega), to 9 f 4 (by omega), to 9 f 5 (by omega), t6, to 9 f 8 (by omega), to 9 f 10 (by omega)]
      rw [mo_ 14 f 0 (by omega), mo_ 14 f 1 (by omega), mo_ 14 f 2 (by omega), mo_ 14 f 3 (by omega), mo_ 14 f 4 (by omega), mo_ 14 f 5 (by omega), mo_ 14 f 6 (by omega), mo_ 14 f 8 (by omega), mo_ 14 f 9 (by omega), mo_ 14 f 10 (by omega), m1o 14 f 0 (by omega) (by omega), m1o 14 f 1 (by omega) (by omega), m1o 14 f 2 (by omega) (by omega), m1o 14 f 3 (by omega) (by omega), m1o 14 f 4 (by omega) (by omega), m1o 14 f 5 (by omega) (by omega), m6, m8, m1o 14 f 9 (by omega) (by omega), m1o 14 f 10 (by omega) (by omega)]
      by_cases e : 0 < σ 9 f 9 - 1
      · have e' := e
        rw [tI_lt, tI_0, dd] at e'
        have t7 : sp_tour σ f 9 f 7 = 6 := by
          unfold sp_tour
          rw [if_pos e, pc9, if_neg (by omega), pc9, if_neg (by omega), h6]
        have t9 : sp_tour σ f 9 f 9 = σ 9 f 9 - 1 := by
          unfold sp_tour
          rw [if_pos e, pc9, if_pos ⟨rfl, rfl, rfl⟩]
        have m7 : mp_trip ρ f hh a 14 f 7 = 6 := by
          unfold mp_trip
          rw [m8, if_neg (fun z => by rw [z] at dd; rw [tI_0] at dd; omega), m1o _ _ _ (by omega) (by omega), ea, h6]
        rw [t7, t9, m7]
        exact ⟨⟨hh, k0, a0, b0⟩, hB, hstep, eh, ef, ⟨rfl, c2⟩, ⟨rfl, Or.inr (Or.inr (Or.inl ⟨rfl, by rw [dd]; omega, by rw [dd]; omega⟩))⟩, ⟨el, a, ha, ea9⟩, rfl, et⟩
      · have e' := e
        rw [tI_lt, tI_0, dd] at e'
        have e0 : σ 9 f 9 - 1 = 0 := tI_eq (by rw [dd, tI_0]; omega)
        have t7 : sp_tour σ f 9 f 7 = 5 := by
          unfold sp_tour
          rw [if_neg e, pc9, if_pos ⟨rfl, rfl, rfl⟩]
        have t9 : sp_tour σ f 9 f 9 = 0 := by
          unfold sp_tour
          rw [if_neg e, pc9, if_neg (by omega), pc9, if_pos ⟨rfl, rfl, rfl⟩]
        have m7 : mp_trip ρ f hh a 14 f 7 = 5 := by
          unfold mp_trip
          rw [m8, if_pos e0, pc9, if_pos ⟨rfl, rfl, rfl⟩]
        rw [t7, t9, m7]
        exact ⟨⟨hh, k0, a0, b0⟩, hB, hstep, eh, ef, ⟨rfl, c2⟩, ⟨rfl, Or.inr (Or.inl rfl)⟩, ⟨el, a, ha, ea9⟩, e0, et⟩
  exact hgoal
theorem mrL.tours (h : mrL P F R N σ ρ) : ∀ n, n ≤ F → mrL P F R N (sp_tourAll σ n) (mp_trips ρ n) := by
  intro n
  induction n with
  | zero => exact fun _ => h
  | succ n ih =>
    intro hn
    have i1 := ih (by omega)
    have e7 := (i1.2.2.2.1 n (by omega)).2.2.2.2.2.2.1.1
    rw [sp_tourAll, mp_trips, e7]
    split
    · rename_i a
      exact i1.tour (by omega) a
    · exact i1
theorem mrL.day (h : mrL P F R N σ ρ) {x z : Int32} (hx : I_ x 0 2000) (hz : I_ z 0 40) : (sp_day σ P F x z).1 = (mp_go ρ P F x z).1 ∧ mrL P F R N (sp_day σ P F x z).2 (mp_go ρ P F x z).2 := by
  obtain ⟨w1, w2⟩ := h.dawn.works F (Nat.le_refl _)
  obtain ⟨c1, c2⟩ := w2.come hx
  have hp := w2.paid hx
  obtain ⟨d1, d2⟩ := w2.draws 0 4 F (Nat.le_refl _)
  have hF8 := h.1.2.1
  have eo : ∀ k i j, ¬ k = 0 → mp_paid (mp_works (mp_dawn ρ P) F).2 x k i j = (mp_works (mp_dawn ρ P) F).2 k i j := fun k i j y => by
    unfold mp_paid
    rw [pc9, if_neg (by omega), pc9, if_neg (by omega)]
  obtain ⟨g1, g2⟩ := hp.draws 0 4 F (Nat.le_refl _)
  have hso : ∀ k i j, ¬ k = 0 → sp_paid (sp_workAll (sp_dawn σ P) F).2 x k i j = (sp_workAll (sp_dawn σ P) F).2 k i j := fun k i j y => by
    unfold sp_paid
    rw [pc9, if_neg (by omega), pc9, if_neg (by omega)]
  have sdr : ∀ n, sp_draws (sp_paid (sp_workAll (sp_dawn σ P) F).2 x) 0 4 n = sp_draws (sp_workAll (sp_dawn σ P) F).2 0 4 n := by
    intro n
    induction n with
    | zero => rfl
    | succ n ih =>
      rw [sp_draws, sp_draws, ih, hso _ _ _ (by decide), sp_draw_same (σ' := sp_paid (sp_workAll (sp_dawn σ P) F).2 x) (σ := (sp_workAll (sp_dawn σ P) F).2) (f := n) (fun j => hso _ _ _ (by decide)) (fun i j => hso _ _ _ (by decide)) (fun i j => hso _ _ _ (by decide)) (fun i j => hso _ _ _ (by decide))]
  have hg : ∀ n, n < F → sp_touch (sp_paid (sp_workAll (sp_dawn σ P) F).2 x) (sp_come (sp_workAll (sp_dawn σ P) F).2 x) (sp_draws (sp_workAll (sp_dawn σ P) F).2 0 4 F) n = mp_touch (mp_eve ρ P F x) (mp_draws (mp_eve ρ P F x) 0 4 F) (mp_come (mp_works (mp_dawn ρ P) F).2 x) F n ∧ I_ (mp_touch (mp_eve ρ P F x) (mp_draws (mp_eve ρ P F x) 0 4 F) (mp_come (mp_works (mp_dawn ρ P) F).2 x) F n) 0 2000000 := by
    intro n hn
    obtain ⟨q1, q2⟩ := (hp.2.2.2.1 n hn).draw hp.1.1 hp.1.2.2 hp.2.2.1
    have hm : mp_touch (mp_eve ρ P F x) (mp_draws (mp_eve ρ P F x) 0 4 F) (mp_come (mp_works (mp_dawn ρ P) F).2 x) F n = (if sp_draws (sp_workAll (sp_dawn σ P) F).2 0 4 F = 0 then 0 else sp_come (sp_workAll (sp_dawn σ P) F).2 x * sp_draw (sp_paid (sp_workAll (sp_dawn σ P) F).2 x) n / sp_draws (sp_workAll (sp_dawn σ P) F).2 0 4 F) := by
      rw [mp_touch_at _ _ _ _ F hn]
      show (if mp_draws (mp_paid (mp_works (mp_dawn ρ P) F).2 x) 0 4 F = 0 then _ else _ * mp_draw (mp_paid (mp_works (mp_dawn ρ P) F).2 x) n / mp_draws (mp_paid (mp_works (mp_dawn ρ P) F).2 x) 0 4 F) = _
      rw [← g1, sdr, ← q1, ← c1]
    obtain ⟨t1, t2⟩ := I_touch (x := sp_come (sp_workAll (sp_dawn σ P) F).2 x) (w := sp_draw (sp_paid (sp_workAll (sp_dawn σ P) F).2 x) n) (y := sp_draws (sp_workAll (sp_dawn σ P) F).2 0 4 F) c2 q2 d2.1
    rw [hm]
    exact ⟨t1, t2⟩
  obtain ⟨v1, v2⟩ := hp.wears (c := (mp_works (mp_dawn ρ P) F).1) hz hg F (Nat.le_refl _)
  refine ⟨?_, v2.tours F (Nat.le_refl _)⟩
  show (sp_workAll (sp_dawn σ P) F).1 + (sp_eve (sp_workAll (sp_dawn σ P) F).2 F x z).1 = _
  rw [w1]
  exact v1.symm
theorem mrL.pass (h : mrL P F R N σ ρ) {x z : Int32} (hx : I_ x 0 2000) (hz : I_ z 0 40) : ∀ n, (sp_pass σ P F x z n).1 = (mp_days ρ P F x z n).1 ∧ mrL P F R N (sp_pass σ P F x z n).2 (mp_days ρ P F x z n).2 := by
  intro n
  induction n with
  | zero => exact ⟨rfl, h⟩
  | succ n ih =>
    obtain ⟨i1, i2⟩ := ih
    obtain ⟨d1, d2⟩ := i2.day hx hz
    exact ⟨by rw [sp_pass, mp_days]; show _ + _ = _ + _; rw [i1, d1], d2⟩
/-- what is in store or on tour isn't melted by days alone -/
theorem mp_go_off {x z : Int32} (h : ρ 14 f 7 = 5 ∨ ρ 14 f 7 = 6) : (mp_go ρ P F x z).2 14 f 7 = 5 ∨ (mp_go ρ P F x z).2 14 f 7 = 6 := by
  have w7 : ∀ n, (mp_works (mp_dawn ρ P) n).2 14 f 7 = ρ 14 f 7 := by
    intro n
    induction n with
    | zero => exact mp_dawn_14 ρ P f 7
    | succ n ih =>
      rw [mp_works]
      split
      · exact ih
      · split
        · exact ih
        · show (mp_work (mp_works (mp_dawn ρ P) n).2 n).2 14 f 7 = _
          rw [mp_work_off _ _ _ _ _ (by omega)]
          exact ih
  have e7 : mp_eve ρ P F x 14 f 7 = ρ 14 f 7 := by
    unfold mp_eve mp_paid
    rw [pc9, if_neg (by omega), pc9, if_neg (by omega)]
    exact w7 F
  have v7 : ∀ g c n, (mp_wears (mp_eve ρ P F x) g z c n).2 14 f 7 = ρ 14 f 7 := by
    intro g c n
    induction n with
    | zero => exact e7
    | succ n ih =>
      rw [mp_wears]
      by_cases a : mp_isShown (mp_wears (mp_eve ρ P F x) g z c n).2 n = 0
      · rw [if_pos a]
        exact ih
      · rw [if_neg a]
        have hn : ¬ f = n := by
          intro e
          subst e
          apply a
          unfold mp_isShown
          rw [ih]
          rcases h with y | y
          · rw [y]; rfl
          · rw [y]; rfl
        show (mp_wear (mp_wears (mp_eve ρ P F x) g z c n).2 n _ _ (g n) z).2 14 f 7 = _
        unfold mp_wear mp_worn
        split
        · show hs_sg _ 14 n 7 7 14 f 7 = _
          rw [pc9, if_neg (by omega), pc9, if_neg (by omega), pc9, if_neg (by omega), pc9, if_neg (by omega)]
          exact ih
        · show hs_sg _ 14 n 6 _ 14 f 7 = _
          rw [pc9, if_neg (by omega), pc9, if_neg (by omega), pc9, if_neg (by omega)]
          exact ih
  have t7 : ∀ τ : hs_St, (τ 14 f 7 = 5 ∨ τ 14 f 7 = 6) → ∀ n, mp_trips τ n 14 f 7 = 5 ∨ mp_trips τ n 14 f 7 = 6 := by
    intro τ hτ n
    induction n with
    | zero => exact hτ
    | succ n ih =>
      rw [mp_trips]
      split
      · have m1 : ∀ h a, mp_trip1 (mp_trips τ n) n h a 14 f 7 = mp_trips τ n 14 f 7 := fun h a => by
          unfold mp_trip1
          rw [pc9, if_neg (by omega), pc9, if_neg (by omega), pc9, if_neg (by omega)]
        unfold mp_trip
        split
        · by_cases e : f = n
          · subst e
            left
            rw [pc9, if_pos ⟨rfl, rfl, rfl⟩]
          · rw [pc9, if_neg (by omega), m1]
            exact ih
        · rw [m1]
          exact ih
      · exact ih
  unfold mp_go
  exact t7 _ (by rw [v7]; exact h) F
theorem mp_days_off {x z : Int32} (h : ρ 14 f 7 = 5 ∨ ρ 14 f 7 = 6) : ∀ n, (mp_days ρ P F x z n).2 14 f 7 = 5 ∨ (mp_days ρ P F x z n).2 14 f 7 = 6 := by
  intro n
  induction n with
  | zero => exact h
  | succ n ih => exact mp_go_off ih
theorem mp_md_off {x z : Int32} (h : ρ 14 f 7 = 5 ∨ ρ 14 f 7 = 6) : ∀ k n, mp_md ρ P F f x z k n = -1 := by
  intro k
  induction k with
  | zero => exact fun _ => rfl
  | succ k ih =>
    intro n
    rw [mp_md, if_neg, ih]
    rcases mp_days_off (P := P) (F := F) (x := x) (z := z) h (n + 1) with y | y
    · rw [y]; decide
    · rw [y]; decide
/-- the trial house, copied: the live part is the house's -/
theorem sp_cp1_at (σ σ2 : hs_St) (q i j : Nat) : ∀ n, (sp_cp1 σ σ2 q n 5 i j = if i = q ∧ j < n then σ2 5 q j else σ 5 i j) ∧ (sp_cp1 σ σ2 q n 6 i j = if i = q ∧ j < n then σ2 6 q j else σ 6 i j) := by
  intro n
  induction n with
  | zero => exact ⟨(if_neg (by omega)).symm, (if_neg (by omega)).symm⟩
  | succ n ih =>
    obtain ⟨i1, i2⟩ := ih
    rw [sp_cp1]
    refine ⟨?_, ?_⟩
    · rw [pc9, if_neg (by omega), pc9]
      by_cases e : i = q ∧ j = n
      · obtain ⟨rfl, rfl⟩ := e
        rw [if_pos ⟨rfl, rfl, rfl⟩, if_pos ⟨rfl, by omega⟩]
      · rw [if_neg (by omega), i1]
        by_cases c : i = q ∧ j < n
        · rw [if_pos c, if_pos (by omega)]
        · rw [if_neg c, if_neg (by omega)]
    · rw [pc9]
      by_cases e : i = q ∧ j = n
      · obtain ⟨rfl, rfl⟩ := e
        rw [if_pos ⟨rfl, rfl, rfl⟩, if_pos ⟨rfl, by omega⟩]
      · rw [if_neg (by omega), pc9, if_neg (by omega), i2]
        by_cases c : i = q ∧ j < n
        · rw [if_pos c, if_pos (by omega)]
        · rw [if_neg c, if_neg (by omega)]
theorem sp_cp2_at (σ σ2 : hs_St) (q i j : Nat) : ∀ n, (sp_cp2 σ σ2 q n 7 i j = if i = q ∧ j < n then σ2 7 q j else σ 7 i j) ∧ (sp_cp2 σ σ2 q n 8 i j = if i = q ∧ j < n then σ2 8 q j else σ 8 i j) := by
  intro n
  induction n with
  | zero => exact ⟨(if_neg (by omega)).symm, (if_neg (by omega)).symm⟩
  | succ n ih =>
    obtain ⟨i1, i2⟩ := ih
    rw [sp_cp2]
    refine ⟨?_, ?_⟩
    · rw [pc9, if_neg (by omega), pc9]
      by_cases e : i = q ∧ j = n
      · obtain ⟨rfl, rfl⟩ := e
        rw [if_pos ⟨rfl, rfl, rfl⟩, if_pos ⟨rfl, by omega⟩]
      · rw [if_neg (by omega), i1]
        by_cases c : i = q ∧ j < n
        · rw [if_pos c, if_pos (by omega)]
        · rw [if_neg c, if_neg (by omega)]
    · rw [pc9]
      by_cases e : i = q ∧ j = n
      · obtain ⟨rfl, rfl⟩ := e
        rw [if_pos ⟨rfl, rfl, rfl⟩, if_pos ⟨rfl, by omega⟩]
      · rw [if_neg (by omega), pc9, if_neg (by omega), i2]
        by_cases c : i = q ∧ j < n
        · rw [if_pos c, if_pos (by omega)]
        · rw [if_neg c, if_neg (by omega)]
/-- which slots of a person are told over -/
def cpW (k j : Nat) : Prop := (k = 4 ∧ (j = 5 ∨ j = 6 ∨ j = 7)) ∨ ((k = 5 ∨ k = 6) ∧ j < 3) ∨ ((k = 7 ∨ k = 8) ∧ j < 6)
theorem sp_cpP_at (σ σ2 : hs_St) (q k i j : Nat) (hw : cpW k j) : sp_cpP σ σ2 q k i j = if i = q then σ2 k q j else σ k i j := by
  unfold sp_cpP
  rcases hw with ⟨rfl, hj⟩ | ⟨hk, hj⟩ | ⟨hk, hj⟩
  · by_cases e : i = q
    · subst e
      rw [if_pos rfl]
      rcases hj with rfl | rfl | rfl
      · rw [pc9, if_neg (by omega), pc9, if_neg (by omega), pc9, if_pos ⟨rfl, rfl, rfl⟩]
      · rw [pc9, if_neg (by omega), pc9, if_pos ⟨rfl, rfl, rfl⟩]
      · rw [pc9, if_pos ⟨rfl, rfl, rfl⟩]
    · rw [if_neg e, pc9, if_neg (by omega), pc9, if_neg (by omega), pc9, if_neg (by omega), sp_cp2_off _ _ _ _ _ _ (by omega), sp_cp1_off _ _ _ _ _ _ (by omega)]
  · rw [pc9, if_neg (by omega), pc9, if_neg (by omega), pc9, if_neg (by omega), sp_cp2_off _ _ _ _ _ _ (by omega)]
    rcases hk with rfl | rfl
    · rw [(sp_cp1_at σ σ2 q i j 3).1]
      by_cases e : i = q
      · rw [if_pos ⟨e, hj⟩, if_pos e]
      · rw [if_neg (fun z => e z.1), if_neg e]
    · rw [(sp_cp1_at σ σ2 q i j 3).2]
      by_cases e : i = q
      · rw [if_pos ⟨e, hj⟩, if_pos e]
      · rw [if_neg (fun z => e z.1), if_neg e]
  · rw [pc9, if_neg (by omega), pc9, if_neg (by omega), pc9, if_neg (by omega)]
    rcases hk with rfl | rfl
    · rw [(sp_cp2_at _ σ2 q i j 6).1]
      by_cases e : i = q
      · rw [if_pos ⟨e, hj⟩, if_pos e]
      · rw [if_neg (fun z => e z.1), if_neg e, sp_cp1_off _ _ _ _ _ _ (by omega)]
    · rw [(sp_cp2_at _ σ2 q i j 6).2]
      by_cases e : i = q
      · rw [if_pos ⟨e, hj⟩, if_pos e]
      · rw [if_neg (fun z => e z.1), if_neg e, sp_cp1_off _ _ _ _ _ _ (by omega)]
theorem sp_cpPs_at (σ σ2 : hs_St) (k i j : Nat) (hw : cpW k j) : ∀ n, i < n → sp_cpPs σ σ2 n k i j = σ2 k i j := by
  intro n
  induction n with
  | zero => exact fun h => absurd h (Nat.not_lt_zero _)
  | succ n ih =>
    intro h
    rw [sp_cpPs, sp_cpP_at _ _ _ _ _ _ hw]
    by_cases e : i = n
    · subst e
      rw [if_pos rfl]
    · rw [if_neg e]
      exact ih (by omega)
theorem sp_cpRs_at (σ σ2 : hs_St) (i j : Nat) (hj : j < 2) : ∀ n, i < n → sp_cpRs σ σ2 n 10 i j = σ2 10 i j := by
  intro n
  induction n with
  | zero => exact fun h => absurd h (Nat.not_lt_zero _)
  | succ n ih =>
    intro h
    rw [sp_cpRs]
    by_cases e : i = n
    · subst e
      rcases (show j = 0 ∨ j = 1 by omega) with rfl | rfl
      · rw [pc9, if_neg (by omega), pc9, if_pos ⟨rfl, rfl, rfl⟩]
      · rw [pc9, if_pos ⟨rfl, rfl, rfl⟩]
    · rw [pc9, if_neg (by omega), pc9, if_neg (by omega)]
      exact ih (by omega)
theorem mrL.copy (h : mrL P F R N σ ρ) (σ2 : hs_St) : mrL P F R N (sp_copy σ2 σ P F R) ρ := by
  have c0 : ∀ j, 3 ≤ j → j ≤ 10 → sp_copy σ2 σ P F R 0 0 j = σ 0 0 j := fun j h3 h10 => sp_copy_0 σ2 σ P F R j h3 h10
  have cP : ∀ k q j, cpW k j → q < P → sp_copy σ2 σ P F R k q j = σ k q j := fun k q j hw hq => by
    unfold sp_copy
    have hk : ¬ k = 10 ∧ ¬ k = 9 := by
      unfold cpW at hw
      omega
    rw [sp_cpRs_off _ _ _ _ _ hk.1, sp_cpFs_off _ _ _ _ _ hk.2]
    exact sp_cpPs_at _ _ _ _ _ hw P hq
  have cR : ∀ r j, j < 2 → r < R → sp_copy σ2 σ P F R 10 r j = σ 10 r j := fun r j hj hr => by
    unfold sp_copy
    exact sp_cpRs_at _ _ _ _ hj R hr
  refine ⟨h.1, ?_, fun q hq => ?_, fun g hg => ?_, fun r hr => ?_⟩
  · unfold rS
    rw [c0 6 (by decide) (by decide), c0 7 (by decide) (by decide), c0 8 (by decide) (by decide), c0 9 (by decide) (by decide), c0 10 (by decide) (by decide)]
    exact h.2.1
  · obtain ⟨p1, p2, p3, p4, p5, p6⟩ := h.2.2.1 q hq
    refine ⟨fun j hj => ?_, fun j hj => ?_, ?_, ?_, ?_, fun j hj => ?_⟩
    · rw [cP 5 q j (Or.inr (Or.inl ⟨Or.inl rfl, hj⟩)) hq]; exact p1 j hj
    · rw [cP 6 q j (Or.inr (Or.inl ⟨Or.inr rfl, hj⟩)) hq]; exact p2 j hj
    · rw [cP 4 q 5 (Or.inl ⟨rfl, Or.inl rfl⟩) hq]; exact p3
    · rw [cP 4 q 6 (Or.inl ⟨rfl, Or.inr (Or.inl rfl)⟩) hq]; exact p4
    · rw [cP 4 q 7 (Or.inl ⟨rfl, Or.inr (Or.inr rfl)⟩) hq]; exact p5
    · rw [cP 7 q j (Or.inr (Or.inr ⟨Or.inl rfl, hj⟩)) hq, cP 8 q j (Or.inr (Or.inr ⟨Or.inr rfl, hj⟩)) hq]; exact p6 j hj
  · have hF := h.2.2.2.1 g hg
    have c9 : ∀ j, j ≤ 10 → sp_copy σ2 σ P F R 9 g j = if j = 0 then nI (σ 9 g 0).toNatClampNeg else if j = 1 then nI (σ 9 g 1).toNatClampNeg else σ 9 g j := fun j hj => by
      rw [sp_copy_9, if_pos hg]
      by_cases e0 : j = 0
      · rw [if_pos e0, if_pos e0]
      · rw [if_neg e0, if_neg e0]
        by_cases e1 : j = 1
        · rw [if_pos e1, if_pos e1]
        · rw [if_neg e1, if_neg e1, if_pos hj]
    have hP := h.1.1
    have k0 : sp_copy σ2 σ P F R 9 g 0 = σ 9 g 0 := by
      rw [c9 0 (by decide), if_pos rfl]
      obtain ⟨⟨hh, q0, a0, -⟩, -⟩ := hF
      rw [a0, nI_clamp (by omega)]
    have k1 : sp_copy σ2 σ P F R 9 g 1 = σ 9 g 1 := by
      rw [c9 1 (by decide), if_neg (by decide), if_pos rfl]
      obtain ⟨-, ⟨hh, q0, a0, -⟩, -⟩ := hF
      rw [a0, nI_clamp (by omega)]
    have kj : ∀ j, 2 ≤ j → j ≤ 10 → sp_copy σ2 σ P F R 9 g j = σ 9 g j := fun j h2 h10 => by rw [c9 j h10, if_neg (by omega), if_neg (by omega)]
    unfold rF
    rw [k0, k1, kj 2 (by decide) (by decide), kj 3 (by decide) (by decide), kj 4 (by decide) (by decide), kj 5 (by decide) (by decide), kj 6 (by decide) (by decide), kj 7 (by decide) (by decide), kj 8 (by decide) (by decide), kj 9 (by decide) (by decide), kj 10 (by decide) (by decide)]
    exact hF
  · unfold rR
    rw [cR r 0 (by decide) hr, cR r 1 (by decide) hr]
    exact h.2.2.2.2 r hr
theorem sp_td_md {τ : hs_St} (h : mrL P F R N τ ρ) (hf : f < F) {x z : Int32} (hx : I_ x 0 2000) (hz : I_ z 0 40) : ∀ k n, (sp_td τ P F f x z k n).1 = mp_md ρ P F f x z k n := by
  intro k
  induction k with
  | zero => exact fun _ => rfl
  | succ k ih =>
    intro n
    have h1 := (h.pass hx hz (n + 1)).2
    have e7 := (h1.2.2.2.1 f hf).2.2.2.2.2.2.1.1
    rw [sp_td, mp_md, e7]
    split
    · rfl
    · exact ih (n + 1)
/-- in how many days it would be melted: both say the same -/
theorem mrL.melts (h : mrL P F R N σ ρ) (hf : f < F) (σ2 : hs_St) {x z : Int32} (hx : I_ x 0 2000) (hz : I_ z 0 40) : (sp_mIn σ σ2 P F R f x z).1 = mp_melts ρ P F f x z := by
  have hF := h.2.2.2.1 f hf
  have hsh := hF.shown h.1.2.2
  obtain ⟨-, -, -, -, -, -, ⟨e7, hp⟩, -⟩ := hF
  unfold sp_mIn mp_melts
  by_cases a : sp_isShown σ f = 0
  · rw [if_pos a]
    rcases hp with ⟨r, hr, z1, -⟩ | z1 | z1 | z1
    · exfalso
      rw [hsh] at a
      unfold mp_isShown at a
      rw [e7, z1, if_neg (by rw [show (5 : Int32) = nI 5 from by decide +kernel]; exact nI_ge (by have := h.1.2.2; omega) (by decide))] at a
      exact absurd a (by decide)
    · rw [e7, z1, if_neg (by decide), mp_md_off (Or.inl (by rw [e7, z1]))]
    · rw [e7, z1.1, if_neg (by decide), mp_md_off (Or.inr (by rw [e7, z1.1]))]
    · rw [e7, z1.1, if_pos rfl]
  · rw [if_neg a, if_neg, sp_td_md (h.copy σ2) hf hx hz]
    intro z1
    apply a
    unfold sp_isShown
    rw [← e7, z1]
    rfl
end RELE
