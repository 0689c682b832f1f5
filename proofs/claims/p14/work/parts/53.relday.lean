/-! SIDE BY SIDE: a day -/
section RELD
variable {P F R N q f : Nat} {σ ρ σ' ρ' : hs_St}
theorem mrL.works (h : mrL P F R N σ ρ) : ∀ n, n ≤ F → (sp_workAll σ n).1 = (mp_works ρ n).1 ∧ mrL P F R N (sp_workAll σ n).2 (mp_works ρ n).2 := by
  intro n
  induction n with
  | zero => exact fun _ => ⟨rfl, h⟩
  | succ n ih =>
    intro hn
    obtain ⟨i1, i2⟩ := ih (by omega)
    obtain ⟨-, -, ⟨j, hj, e1, e2, -⟩, -, -, -, ⟨e7, -⟩, -⟩ := i2.2.2.2.1 n (by omega)
    rw [sp_workAll, mp_works]
    by_cases a : 6 ≤ (mp_works ρ n).2 14 n 2
    · have es : sp_wd (sp_workAll σ n).2 n = (0, (sp_workAll σ n).2) := by
        unfold sp_wd
        rw [if_pos (by rw [e1, ← e2]; exact a)]
      rw [if_pos a, es]
      exact ⟨by show (if (0 : Int32) = 0 then (sp_workAll σ n).1 else (sp_workAll σ n).1 + 1) = (mp_works ρ n).1 + 0; rw [if_pos rfl, Int32.add_zero]; exact i1, i2⟩
    · rw [if_neg a]
      by_cases b : (mp_works ρ n).2 14 n 7 = 7
      · have es : sp_wd (sp_workAll σ n).2 n = (0, (sp_workAll σ n).2) := by
          unfold sp_wd
          rw [if_neg (by rw [e1, ← e2]; exact a), if_pos (by rw [← e7]; exact b)]
        rw [if_pos b, es]
        exact ⟨by show (if (0 : Int32) = 0 then (sp_workAll σ n).1 else (sp_workAll σ n).1 + 1) = (mp_works ρ n).1 + 0; rw [if_pos rfl, Int32.add_zero]; exact i1, i2⟩
      · rw [if_neg b]
        obtain ⟨w1, w2, w3⟩ := i2.work (by omega) a b
        refine ⟨?_, w3⟩
        show (if (sp_wd (sp_workAll σ n).2 n).1 = 0 then (sp_workAll σ n).1 else (sp_workAll σ n).1 + 1) = (mp_works ρ n).1 + (mp_work (mp_works ρ n).2 n).1
        rw [w1, i1]
        rcases w2 with z | z
        · rw [z, if_pos rfl, Int32.add_zero]
        · rw [z, if_neg (by decide)]
theorem mrL.setP (h : mrL P F R N σ ρ) (hs : ∀ k i j, ¬ (4 ≤ k ∧ k ≤ 8 ∧ i = q) → σ' k i j = σ k i j) (gs : ∀ k i j, ¬ (11 ≤ k ∧ k ≤ 13 ∧ i = q) → ρ' k i j = ρ k i j) (hq : rP σ' ρ' q) : mrL P F R N σ' ρ' := by
  refine ⟨h.1, h.2.1.same (fun j _ => hs _ _ _ (by omega)) (fun j _ => gs _ _ _ (by omega)), fun p hp => ?_, fun g hg => (h.2.2.2.1 g hg).same (fun j => hs _ _ _ (by omega)) (fun j => gs _ _ _ (by omega)), fun r hr => (h.2.2.2.2 r hr).same (hs _ _ _ (by omega)) (hs _ _ _ (by omega)) (gs _ _ _ (by omega)) (gs _ _ _ (by omega))⟩
  by_cases e : p = q
  · subst e
    exact hq
  · exact (h.2.2.1 p hp).same (fun j => hs _ _ _ (by omega)) (fun j => hs _ _ _ (by omega)) (fun j => hs _ _ _ (by omega)) (fun j => hs _ _ _ (by omega)) (fun j => hs _ _ _ (by omega)) (fun j => gs _ _ _ (by omega)) (fun j => gs _ _ _ (by omega)) (fun j => gs _ _ _ (by omega))
theorem mrL.setS {N' : Nat} (h : mrL P F R N σ ρ) (hs : ∀ k i j, ¬ k = 0 → σ' k i j = σ k i j) (gs : ∀ k i j, ¬ k = 0 → ρ' k i j = ρ k i j) (h0 : rS N' σ' ρ') : mrL P F R N' σ' ρ' :=
  ⟨h.1, h0, fun p hp => (h.2.2.1 p hp).same (fun j => hs _ _ _ (by omega)) (fun j => hs _ _ _ (by omega)) (fun j => hs _ _ _ (by omega)) (fun j => hs _ _ _ (by omega)) (fun j => hs _ _ _ (by omega)) (fun j => gs _ _ _ (by omega)) (fun j => gs _ _ _ (by omega)) (fun j => gs _ _ _ (by omega)), fun g hg => (h.2.2.2.1 g hg).same (fun j => hs _ _ _ (by omega)) (fun j => gs _ _ _ (by omega)), fun r hr => (h.2.2.2.2 r hr).same (hs _ _ _ (by omega)) (hs _ _ _ (by omega)) (gs _ _ _ (by omega)) (gs _ _ _ (by omega))⟩
theorem mp_month_at (g : Nat → Int32) {j : Nat} (hj : j < 3) (i : Nat) : mp_month g j i = if i = j then mp_held (g j + g (3 + j)) 999 else if i = 3 + j then g (3 + j) - mp_sig (g (3 + j)) else g i := by
  unfold mp_month upd
  by_cases a : i = 3 + j
  · subst a
    simp only [if_neg (show ¬ 3 + j = j by omega), if_true]
  · by_cases b : i = j
    · subst b
      simp only [if_neg a, if_true]
    · simp only [if_neg a, if_neg b]
theorem mrL.mon (h : mrL P F R N σ ρ) (hq : q < P) {j : Nat} (hj : j < 3) : mrL P F R N (hs_sg (hs_sg σ 5 q j (sp_held (σ 5 q j + σ 6 q j))) 6 q j (sp_nearer (σ 6 q j))) (hs_row ρ 11 q (mp_month (ρ 11 q) j)) := by
  obtain ⟨p1, p2, p3, p4, p5, p6⟩ := h.2.2.1 q hq
  refine h.setP (q := q) (fun k i jj z => by rw [pc9, if_neg (by omega), pc9, if_neg (by omega)]) (fun k i jj z => if_neg (by omega)) ?_
  have r11 : ∀ i, hs_row ρ 11 q (mp_month (ρ 11 q) j) 11 q i = mp_month (ρ 11 q) j i := fun i => if_pos ⟨rfl, rfl⟩
  have r12 : ∀ k i, ¬ k = 11 → hs_row ρ 11 q (mp_month (ρ 11 q) j) k q i = ρ k q i := fun k i z => if_neg (fun y => z y.1)
  have s5 : ∀ i, (hs_sg (hs_sg σ 5 q j (sp_held (σ 5 q j + σ 6 q j))) 6 q j (sp_nearer (σ 6 q j))) 5 q i = if i = j then sp_held (σ 5 q j + σ 6 q j) else σ 5 q i := fun i => by
    rw [pc9, if_neg (by omega), pc9]
    by_cases e : i = j
    · rw [if_pos ⟨rfl, rfl, e⟩, if_pos e]
    · rw [if_neg (by omega), if_neg e]
  have s6 : ∀ i, (hs_sg (hs_sg σ 5 q j (sp_held (σ 5 q j + σ 6 q j))) 6 q j (sp_nearer (σ 6 q j))) 6 q i = if i = j then sp_nearer (σ 6 q j) else σ 6 q i := fun i => by
    rw [pc9]
    by_cases e : i = j
    · rw [if_pos ⟨rfl, rfl, e⟩, if_pos e]
    · rw [if_neg (by omega), pc9, if_neg (by omega), if_neg e]
  have so : ∀ k i, ¬ k = 5 → ¬ k = 6 → (hs_sg (hs_sg σ 5 q j (sp_held (σ 5 q j + σ 6 q j))) 6 q j (sp_nearer (σ 6 q j))) k q i = σ k q i := fun k i y z => by rw [pc9, if_neg (by omega), pc9, if_neg (by omega)]
  obtain ⟨f1, f2⟩ := p1 j hj
  obtain ⟨t1, t2⟩ := p2 j hj
  refine ⟨fun i hi => ?_, fun i hi => ?_, ?_, ?_, ?_, fun i hi => ?_⟩
  · rw [r11, s5, mp_month_at _ hj]
    by_cases e : i = j
    · rw [if_pos e, if_pos e, f1, t1, sp_held_mp]
      exact ⟨rfl, by rw [← sp_held_mp]; exact sp_held_I _⟩
    · rw [if_neg e, if_neg e, if_neg (by omega)]
      exact p1 i hi
  · rw [r11, s6, mp_month_at _ hj, if_neg (by omega)]
    by_cases e : i = j
    · subst e
      rw [if_pos rfl, if_pos rfl, t1]
      obtain ⟨n1, n2⟩ := sp_near t2
      exact ⟨n1.symm, n2⟩
    · rw [if_neg (by omega), if_neg e]
      exact p2 i hi
  · rw [r11, mp_month_at _ hj, if_neg (by omega), if_neg (by omega), so _ _ (by decide) (by decide)]
    exact p3
  · rw [r11, mp_month_at _ hj, if_neg (by omega), if_neg (by omega), so _ _ (by decide) (by decide)]
    exact p4
  · rw [r11, mp_month_at _ hj, if_neg (by omega), if_neg (by omega), so _ _ (by decide) (by decide)]
    exact p5
  · rw [r12 _ _ (by decide), r12 _ _ (by decide), so _ _ (by decide) (by decide), so _ _ (by decide) (by decide)]
    exact p6 i hi
theorem mrL.mons (h : mrL P F R N σ ρ) (hq : q < P) : ∀ n, n ≤ 3 → mrL P F R N (sp_mon σ q n) (mp_mons ρ q n) := by
  intro n
  induction n with
  | zero => exact fun _ => h
  | succ n ih =>
    intro hn
    exact (ih (by omega)).mon hq (by omega)
theorem mrL.monAll (h : mrL P F R N σ ρ) : ∀ n, n ≤ P → mrL P F R N (sp_monAll σ n) (mp_monAll ρ n) := by
  intro n
  induction n with
  | zero => exact fun _ => h
  | succ n ih =>
    intro hn
    exact (ih (by omega)).mons (by omega) 3 (Nat.le_refl _)
theorem mrL.dawn (h : mrL P F R N σ ρ) : mrL P F R N (sp_dawn σ P) (mp_dawn ρ P) := by
  obtain ⟨s1, s2, s3, s4, s5⟩ := h.2.1
  have h1 : mrL P F R N (hs_sg σ 0 0 6 (σ 0 0 6 + 1)) (hs_sg ρ 0 0 9 (ρ 0 0 9 + 1)) := by
    refine h.setS (fun k i j z => by rw [pc9, if_neg (by omega)]) (fun k i j z => by rw [pc9, if_neg (by omega)]) ?_
    unfold rS
    have a_ : ∀ j, ¬ j = 6 → hs_sg σ 0 0 6 (σ 0 0 6 + 1) 0 0 j = σ 0 0 j := fun j z => by rw [pc9, if_neg (by omega)]
    have b_ : ∀ j, ¬ j = 9 → hs_sg ρ 0 0 9 (ρ 0 0 9 + 1) 0 0 j = ρ 0 0 j := fun j z => by rw [pc9, if_neg (by omega)]
    rw [a_ 7 (by decide), a_ 8 (by decide), a_ 9 (by decide), a_ 10 (by decide), b_ 10 (by decide), b_ 11 (by decide), b_ 12 (by decide), b_ 13 (by decide)]
    refine ⟨?_, s2, s3, s4, s5⟩
    rw [pc9, if_pos ⟨rfl, rfl, rfl⟩, pc9, if_pos ⟨rfl, rfl, rfl⟩, s1]
  unfold sp_dawn mp_dawn
  rw [s1]
  rw [s1] at h1
  split
  · exact h1.monAll P (Nat.le_refl _)
  · exact h1
theorem mrL.come (h : mrL P F R N σ ρ) {x : Int32} (hx : I_ x 0 2000) : sp_come σ x = mp_come ρ x ∧ I_ (sp_come σ x) 0 2000 := by
  obtain ⟨s1, s2, s3, ⟨s4, i4⟩, s5⟩ := h.2.1
  unfold sp_come mp_come
  rw [s4]
  refine ⟨rfl, ?_⟩
  have i5 : I_ (5 * σ 0 0 9) 0 100 := I_mono (I_mul (x := 5) (I_mono (I_c tI_5) (by decide) (Int.le_refl _)) i4 (by decide)) (Int.le_refl _) (by decide)
  have i6 : I_ (100 - 5 * σ 0 0 9) 0 100 := I_mono (I_sub (I_c tI_100) i5 (by decide) (by decide)) (by decide) (by decide)
  exact I_mono (I_div (I_mul hx i6 (by decide)) (by decide)) (Int.le_refl _) (by decide)
theorem mrL.paid (h : mrL P F R N σ ρ) {x : Int32} (hx : I_ x 0 2000) : mrL P F R N (sp_paid σ x) (mp_paid ρ x) := by
  obtain ⟨s1, s2, s3, s4, s5⟩ := h.2.1
  obtain ⟨c1, -⟩ := h.come hx
  refine h.setS (fun k i j z => by unfold sp_paid; rw [pc9, if_neg (by omega), pc9, if_neg (by omega)]) (fun k i j z => by unfold mp_paid; rw [pc9, if_neg (by omega), pc9, if_neg (by omega)]) ?_
  unfold rS
  have a_ : ∀ j, ¬ j = 10 → ¬ j = 7 → sp_paid σ x 0 0 j = σ 0 0 j := fun j z y => by unfold sp_paid; rw [pc9, if_neg (by omega), pc9, if_neg (by omega)]
  have b_ : ∀ j, ¬ j = 10 → ¬ j = 12 → mp_paid ρ x 0 0 j = ρ 0 0 j := fun j z y => by unfold mp_paid; rw [pc9, if_neg (by omega), pc9, if_neg (by omega)]
  have a7 : sp_paid σ x 0 0 7 = σ 0 0 7 + σ 0 0 9 * sp_come σ x := by unfold sp_paid; rw [pc9, if_pos ⟨rfl, rfl, rfl⟩]
  have a10 : sp_paid σ x 0 0 10 = σ 0 0 10 + sp_come σ x := by unfold sp_paid; rw [pc9, if_neg (by omega), pc9, if_pos ⟨rfl, rfl, rfl⟩]
  have b12 : mp_paid ρ x 0 0 12 = ρ 0 0 12 + ρ 0 0 11 * mp_come ρ x := by unfold mp_paid; rw [pc9, if_pos ⟨rfl, rfl, rfl⟩]
  have b10 : mp_paid ρ x 0 0 10 = ρ 0 0 10 + mp_come ρ x := by unfold mp_paid; rw [pc9, if_neg (by omega), pc9, if_pos ⟨rfl, rfl, rfl⟩]
  rw [a_ 6 (by decide) (by decide), a_ 8 (by decide) (by decide), a_ 9 (by decide) (by decide), a7, a10, b_ 9 (by decide) (by decide), b_ 11 (by decide) (by decide), b_ 13 (by decide) (by decide), b12, b10, s2, s4.1, s5, c1]
  exact ⟨s1, rfl, s3, ⟨rfl, s4.2⟩, rfl⟩
/-- a figure's draw hangs on its own row and on its persons' -/
theorem sp_draw_same (h9 : ∀ j, σ' 9 f j = σ 9 f j) (h5 : ∀ i j, σ' 5 i j = σ 5 i j) (h7 : ∀ i j, σ' 7 i j = σ 7 i j) (h8 : ∀ i j, σ' 8 i j = σ 8 i j) : sp_draw σ' f = sp_draw σ f := by
  have e9 : σ' 9 f = σ 9 f := funext h9
  have e5 : σ' 5 = σ 5 := funext fun i => funext (h5 i)
  have e7 : σ' 7 = σ 7 := funext fun i => funext (h7 i)
  have e8 : σ' 8 = σ 8 := funext fun i => funext (h8 i)
  unfold sp_draw sp_isShown sp_likeness sp_isDone sp_height
  rw [e9, e5, e7, e8]
theorem sp_wear_off (σ : hs_St) (f k i j : Nat) (x y z : Int32) (h : ¬ (k = 9 ∧ i = f)) (h4 : ¬ k = 4) : (sp_wear σ f x y z).2 k i j = σ k i j := by
  unfold sp_wear sp_melt
  split
  · show hs_sg (hs_sg (sp_worn σ f x y z) 9 f 7 7) 9 f 4 0 k i j = _
    rw [pc9, if_neg (by omega), pc9, if_neg (by omega)]
    unfold sp_worn
    rw [pc9, if_neg (by omega), pc9, if_neg (by omega), pc9, if_neg (by omega)]
  · show sp_worn σ f x y z k i j = _
    unfold sp_worn
    rw [pc9, if_neg (by omega), pc9, if_neg (by omega), pc9, if_neg (by omega)]
theorem sp_heat_mp {y z : Int32} (hz : I_ z 0 40) (hy : I_ y 0 9) : sp_heat y z = mp_max 0 (z - 25) * y / 10 ∧ I_ (sp_heat y z) 0 13 := by
  have z1 := hz.1; have z2 := hz.2
  have ez : (z - 25).toInt = z.toInt - 25 := tI_sub (by rw [tI_25]; omega) (by rw [tI_25]; omega)
  unfold sp_heat mp_max
  by_cases a : z ≤ 25
  · rw [if_pos a, if_neg (show ¬ 0 < z - 25 by rw [tI_lt, ez, tI_0]; rw [tI_le, tI_25] at a; omega)]
    refine ⟨?_, by decide, by decide⟩
    apply tI_eq
    have e0 : (0 * y).toInt = 0 := by rw [tI_mul (by rw [tI_0]; omega) (by rw [tI_0]; omega), tI_0]; omega
    rw [tI_div (by rw [e0]; exact Int.le_refl _) (by decide), e0, tI_0]
    rfl
  · rw [if_neg a, if_pos (show 0 < z - 25 by rw [tI_lt, ez, tI_0]; rw [tI_le, tI_25] at a; omega)]
    rw [tI_le, tI_25] at a
    have i1 : I_ (z - 25) 0 15 := ⟨by omega, by omega⟩
    exact ⟨rfl, I_mono (I_div (I_mul i1 hy (by decide)) (by decide)) (Int.le_refl _) (by decide)⟩
theorem sp_cap {s : Int32} (h : 0 ≤ s.toInt) : (if 100 < s then 100 else s) = mp_held s 100 ∧ I_ (mp_held s 100) 0 100 := by
  unfold mp_held mp_min mp_max
  by_cases a : 100 < s
  · rw [if_pos a, if_neg (show ¬ s < 100 by rw [tI_lt, tI_100] at a ⊢; omega), if_pos (by decide)]
    exact ⟨rfl, by decide, by decide⟩
  · rw [if_neg a]
    rw [tI_lt, tI_100] at a
    by_cases b : s < 100
    · rw [if_pos b]
      rw [tI_lt, tI_100] at b
      by_cases c : 0 < s
      · rw [if_pos c]
        exact ⟨rfl, by omega, by omega⟩
      · rw [if_neg c]
        rw [tI_lt, tI_0] at c
        have : s = 0 := tI_eq (by rw [tI_0]; omega)
        rw [this]
        exact ⟨rfl, by decide, by decide⟩
    · rw [if_neg b, if_pos (by decide)]
      rw [tI_lt, tI_100] at b
      exact ⟨tI_eq (by rw [tI_100]; omega), by decide, by decide⟩
/-- one shown figure's wear -/
theorem mrL.wear (h : mrL P F R N σ ρ) (hf : f < F) (hsh : ¬ mp_isShown ρ f = 0) {x z : Int32} (hx : I_ x 0 2000000) (hz : I_ z 0 40) : (sp_wear σ f x (σ 10 (σ 9 f 7).toNatClampNeg 0) z).1 = (mp_wear ρ f (ρ 14 f 0).toNatClampNeg (ρ 14 f 7).toNatClampNeg x z).1 ∧ ((mp_wear ρ f (ρ 14 f 0).toNatClampNeg (ρ 14 f 7).toNatClampNeg x z).1 = 0 ∨ (mp_wear ρ f (ρ 14 f 0).toNatClampNeg (ρ 14 f 7).toNatClampNeg x z).1 = 1) ∧ mrL P F R N (sp_wear σ f x (σ 10 (σ 9 f 7).toNatClampNeg 0) z).2 (mp_wear ρ f (ρ 14 f 0).toNatClampNeg (ρ 14 f 7).toNatClampNeg x z).2 := by
  have hF := h.2.2.2.1 f hf
  obtain ⟨⟨hh, k0, a0, b0⟩, hB, ⟨j, hj, e1, e2, e3, e4⟩, eh, ef, ⟨ew, iw⟩, ⟨ea, hp⟩, el, ed, et⟩ := id hF
  have hR5 := h.1.2.2
  have hP10 := h.1.1
  have hroom : ∃ r, r < R ∧ σ 9 f 7 = nI r ∧ σ 9 f 2 = 6 := by
    unfold mp_isShown at hsh
    rcases hp with z | z | z | z
    · exact z
    · rw [ea, z] at hsh; exact absurd rfl hsh
    · rw [ea, z.1] at hsh; exact absurd rfl hsh
    · rw [ea, z.1] at hsh; exact absurd rfl hsh
  obtain ⟨r, hr, p7, p2⟩ := hroom
  have j6 : j = 6 := (nI6 hj).mp (by rw [← e1, p2]; decide)
  obtain ⟨a3, b3, a4⟩ := e4 j6
  have cr : (nI r).toNatClampNeg = r := nI_clamp (by omega)
  have ch : (nI hh).toNatClampNeg = hh := nI_clamp (by omega)
  obtain ⟨l1, l2, l3⟩ := h.2.2.2.2 r hr
  rw [ea, p7, cr, b0, ch]
  obtain ⟨t1, t2⟩ := sp_heat_mp hz l3
  -- what wear comes to
  have ix : I_ (x / 50) 0 40000 := I_mono (I_div hx (by decide)) (Int.le_refl _) (by decide)
  have il : I_ (σ 10 r 0 / 3) 0 3 := I_mono (I_div l3 (by decide)) (Int.le_refl _) (by decide)
  have is : I_ (σ 9 f 6 + x / 50 + σ 10 r 0 / 3 + sp_heat (σ 10 r 0) z) 0 40116 := I_mono (I_add (I_add (I_add iw ix (by decide) (by decide)) il (by decide) (by decide)) t2 (by decide) (by decide)) (by decide) (by decide)
  obtain ⟨c1, c2⟩ := sp_cap is.1
  -- the rows behind it
  have so : ∀ k i jj, ¬ (k = 9 ∧ i = f ∧ (jj = 6 ∨ jj = 10)) → ¬ (k = 4 ∧ i = hh ∧ jj = 6) → sp_worn σ f x (σ 10 r 0) z k i jj = σ k i jj := fun k i jj y1 y2 => by
    unfold sp_worn
    rw [a0, ch, pc9, if_neg (by omega), pc9, if_neg (by omega), pc9, if_neg (by omega)]
  have s6 : sp_worn σ f x (σ 10 r 0) z 9 f 6 = mp_held (σ 9 f 6 + x / 50 + σ 10 r 0 / 3 + sp_heat (σ 10 r 0) z) 100 := by
    unfold sp_worn
    rw [pc9, if_pos ⟨rfl, rfl, rfl⟩, c1]
  have s10 : sp_worn σ f x (σ 10 r 0) z 9 f 10 = σ 9 f 10 + x := by
    unfold sp_worn
    rw [pc9, if_neg (by omega), pc9, if_neg (by omega), pc9, if_pos ⟨rfl, rfl, rfl⟩]
  have s4 : sp_worn σ f x (σ 10 r 0) z 4 hh 6 = σ 4 hh 6 + x / 100 := by
    unfold sp_worn
    rw [a0, ch, pc9, if_neg (by omega), pc9, if_pos ⟨rfl, rfl, rfl⟩]
  have ro : ∀ k i jj, ¬ (k = 14 ∧ i = f ∧ (jj = 6 ∨ jj = 10)) → ¬ (k = 11 ∧ i = hh ∧ jj = 7) → mp_worn ρ f hh r x z k i jj = ρ k i jj := fun k i jj y1 y2 => by
    unfold mp_worn
    rw [pc9, if_neg (by omega), pc9, if_neg (by omega), pc9, if_neg (by omega)]
  have r6 : mp_worn ρ f hh r x z 14 f 6 = mp_held (σ 9 f 6 + x / 50 + σ 10 r 0 / 3 + sp_heat (σ 10 r 0) z) 100 := by
    unfold mp_worn
    rw [pc9, if_pos ⟨rfl, rfl, rfl⟩, ew, l1, t1]
  have r10 : mp_worn ρ f hh r x z 14 f 10 = ρ 14 f 10 + x := by
    unfold mp_worn
    rw [pc9, if_neg (by omega), pc9, if_neg (by omega), pc9, if_pos ⟨rfl, rfl, rfl⟩]
  have r11 : mp_worn ρ f hh r x z 11 hh 7 = ρ 11 hh 7 + x / 100 := by
    unfold mp_worn
    rw [pc9, if_neg (by omega), pc9, if_pos ⟨rfl, rfl, rfl⟩]
  have hrest : ∀ (τ η : hs_St), (∀ k i jj, ¬ (k = 9 ∧ i = f ∧ (jj = 4 ∨ jj = 7)) → τ k i jj = sp_worn σ f x (σ 10 r 0) z k i jj) → (∀ k i jj, ¬ (k = 14 ∧ i = f ∧ jj = 7) → η k i jj = mp_worn ρ f hh r x z k i jj) → rF P R (τ 9 f) (η 14 f) → mrL P F R N τ η := by
    intro τ η hτ hη hg
    have h1 : mrL P F R N (hs_sg σ 4 hh 6 (σ 4 hh 6 + x / 100)) (hs_sg ρ 11 hh 7 (ρ 11 hh 7 + x / 100)) := by
      obtain ⟨p1, p2, p3, p4, p5, p6⟩ := h.2.2.1 hh k0
      refine h.setP (q := hh) (fun k i jj z => by rw [pc9, if_neg (by omega)]) (fun k i jj z => by rw [pc9, if_neg (by omega)]) ?_
      refine ⟨fun i hi => ?_, fun i hi => ?_, ?_, ?_, ?_, fun i hi => ?_⟩
      · rw [pc9, if_neg (by omega), pc9, if_neg (by omega)]; exact p1 i hi
      · rw [pc9, if_neg (by omega), pc9, if_neg (by omega)]; exact p2 i hi
      · rw [pc9, if_neg (by omega), pc9, if_neg (by omega)]; exact p3
      · rw [pc9, if_pos ⟨rfl, rfl, rfl⟩, pc9, if_pos ⟨rfl, rfl, rfl⟩, p4]
      · rw [pc9, if_neg (by omega), pc9, if_neg (by omega)]; exact p5
      · rw [pc9, if_neg (by omega), pc9, if_neg (by omega), pc9, if_neg (by omega), pc9, if_neg (by omega)]; exact p6 i hi
    refine h1.setF (f := f) (fun k i jj y => ?_) (fun k i jj y => ?_) hg
    · rw [hτ _ _ _ (by omega), pc9]
      by_cases e : k = 4 ∧ i = hh ∧ jj = 6
      · obtain ⟨rfl, rfl, rfl⟩ := e
        rw [if_pos ⟨rfl, rfl, rfl⟩, s4]
      · rw [if_neg e, so _ _ _ (by omega) e]
    · rw [hη _ _ _ (by omega), pc9]
      by_cases e : k = 11 ∧ i = hh ∧ jj = 7
      · obtain ⟨rfl, rfl, rfl⟩ := e
        rw [if_pos ⟨rfl, rfl, rfl⟩, r11]
      · rw [if_neg e, ro _ _ _ (by omega) e]
  have W_ : ∀ jj, ¬ (jj = 6 ∨ jj = 10) → sp_worn σ f x (σ 10 r 0) z 9 f jj = σ 9 f jj := fun jj y => so _ _ _ (by omega) (by omega)
  have V_ : ∀ jj, ¬ (jj = 6 ∨ jj = 10) → mp_worn ρ f hh r x z 14 f jj = ρ 14 f jj := fun jj y => ro _ _ _ (by omega) (by omega)
  unfold sp_wear mp_wear
  rw [s6, r6]
  by_cases m : 100 ≤ mp_held (σ 9 f 6 + x / 50 + σ 10 r 0 / 3 + sp_heat (σ 10 r 0) z) 100
  · rw [if_pos m, if_pos m]
    refine ⟨rfl, Or.inr rfl, hrest _ _ (fun k i jj y => ?_) (fun k i jj y => ?_) ?_⟩
    · show sp_melt (sp_worn σ f x (σ 10 r 0) z) f k i jj = _
      unfold sp_melt
      rw [pc9, if_neg (by omega), pc9, if_neg (by omega)]
    · show hs_sg (mp_worn ρ f hh r x z) 14 f 7 7 k i jj = _
      rw [pc9, if_neg (by omega)]
    · show rF P R (sp_melt (sp_worn σ f x (σ 10 r 0) z) f 9 f) (hs_sg (mp_worn ρ f hh r x z) 14 f 7 7 14 f)
      have m_ : ∀ jj, ¬ (jj = 4 ∨ jj = 7) → sp_melt (sp_worn σ f x (σ 10 r 0) z) f 9 f jj = sp_worn σ f x (σ 10 r 0) z 9 f jj := fun jj y => by
        unfold sp_melt
        rw [pc9, if_neg (by omega), pc9, if_neg (by omega)]
      have m4 : sp_melt (sp_worn σ f x (σ 10 r 0) z) f 9 f 4 = 0 := by
        unfold sp_melt
        rw [pc9, if_pos ⟨rfl, rfl, rfl⟩]
      have m7 : sp_melt (sp_worn σ f x (σ 10 r 0) z) f 9 f 7 = 7 := by
        unfold sp_melt
        rw [pc9, if_neg (by omega), pc9, if_pos ⟨rfl, rfl, rfl⟩]
      have n_ : ∀ jj, ¬ jj = 7 → hs_sg (mp_worn ρ f hh r x z) 14 f 7 7 14 f jj = mp_worn ρ f hh r x z 14 f jj := fun jj y => by rw [pc9, if_neg (by omega)]
      have n7 : hs_sg (mp_worn ρ f hh r x z) 14 f 7 7 14 f 7 = 7 := by rw [pc9, if_pos ⟨rfl, rfl, rfl⟩]
      unfold rF
      rw [m_ 0 (by omega), m_ 1 (by omega), m_ 2 (by omega), m_ 3 (by omega), m4, m_ 5 (by omega), m_ 6 (by omega), m7, m_ 8 (by omega), m_ 9 (by omega), m_ 10 (by omega), n_ 0 (by omega), n_ 1 (by omega), n_ 2 (by omega), n_ 3 (by omega), n_ 4 (by omega), n_ 5 (by omega), n_ 6 (by omega), n7, n_ 8 (by omega), n_ 9 (by omega), n_ 10 (by omega)]
      rw [W_ 0 (by omega), W_ 1 (by omega), W_ 2 (by omega), W_ 3 (by omega), W_ 5 (by omega), s6, W_ 8 (by omega), W_ 9 (by omega), s10, V_ 0 (by omega), V_ 1 (by omega), V_ 2 (by omega), V_ 3 (by omega), V_ 4 (by omega), V_ 5 (by omega), r6, V_ 8 (by omega), V_ 9 (by omega), r10]
      exact ⟨⟨hh, k0, a0, b0⟩, hB, ⟨j, hj, e1, e2, e3, fun _ => ⟨a3, b3, rfl⟩⟩, ⟨by rw [eh.1, a4], by decide, by decide⟩, ef, ⟨rfl, c2⟩, ⟨rfl, Or.inr (Or.inr (Or.inr ⟨rfl, rfl⟩))⟩, el, ed, by rw [et]⟩
  · rw [if_neg m, if_neg m]
    refine ⟨rfl, Or.inl rfl, hrest _ _ (fun k i jj y => rfl) (fun k i jj y => rfl) ?_⟩
    show rF P R (sp_worn σ f x (σ 10 r 0) z 9 f) (mp_worn ρ f hh r x z 14 f)
    unfold rF
    rw [W_ 0 (by omega), W_ 1 (by omega), W_ 2 (by omega), W_ 3 (by omega), W_ 4 (by omega), W_ 5 (by omega), s6, W_ 7 (by omega), W_ 8 (by omega), W_ 9 (by omega), s10, V_ 0 (by omega), V_ 1 (by omega), V_ 2 (by omega), V_ 3 (by omega), V_ 4 (by omega), V_ 5 (by omega), r6, V_ 7 (by omega), V_ 8 (by omega), V_ 9 (by omega), r10]
    exact ⟨⟨hh, k0, a0, b0⟩, hB, ⟨j, hj, e1, e2, e3, e4⟩, eh, ef, ⟨rfl, c2⟩, ⟨ea, hp⟩, el, ed, by rw [et]⟩
end RELD
