/-! SIDE BY SIDE: what one asks -/
section RELA
variable {P F R N q f : Nat} {σ ρ : hs_St}
theorem rP.fames (h : rP σ ρ q) {j : Nat} (hj : j < 3) : ∀ n, mp_fames (va_cpy (ρ 11 q) (fun _ => 0) 0 0 9) j n j = (sp_ft (σ 5 q j) (σ 6 q j) n).1 ∧ mp_fames (va_cpy (ρ 11 q) (fun _ => 0) 0 0 9) j n (3 + j) = (sp_ft (σ 5 q j) (σ 6 q j) n).2 ∧ I_ (sp_ft (σ 5 q j) (σ 6 q j) n).1 0 999 ∧ I_ (sp_ft (σ 5 q j) (σ 6 q j) n).2 (-40) 40 := by
  intro n
  induction n with
  | zero =>
    obtain ⟨a1, a2⟩ := h.1 j hj
    obtain ⟨b1, b2⟩ := h.2.1 j hj
    refine ⟨?_, ?_, a2, b2⟩
    · show va_cpy (ρ 11 q) (fun _ => 0) 0 0 9 j = _
      unfold va_cpy
      rw [if_pos (by omega), Nat.zero_add, Nat.sub_zero]
      exact a1
    · show va_cpy (ρ 11 q) (fun _ => 0) 0 0 9 (3 + j) = _
      unfold va_cpy
      rw [if_pos (by omega), Nat.zero_add, Nat.sub_zero]
      exact b1
  | succ n ih =>
    obtain ⟨i1, i2, i3, i4⟩ := ih
    obtain ⟨n1, n2⟩ := sp_near i4
    rw [mp_fames, mp_month_at _ hj, mp_month_at _ hj, if_pos rfl, if_neg (by omega), if_pos rfl, sp_ft, i1, i2]
    exact ⟨(sp_held_mp _).symm, n1.symm, sp_held_I _, n2⟩
theorem rP.fame (h : rP σ ρ q) {j : Nat} (hj : j < 3) (M : Nat) : sp_fame σ q j M = mp_fame ρ q j M ∧ I_ (sp_fame σ q j M) 0 999 := by
  obtain ⟨a1, -, a3, -⟩ := h.fames hj M
  exact ⟨a1.symm, a3⟩
theorem sp_add_rsum : ∀ (k n : Nat) (x : Int32), n + k ≤ 6 → sp_add k n x = mp_rsum x n k := by
  intro k
  induction k with
  | zero => exact fun n x _ => by cases n <;> rfl
  | succ k ih =>
    intro n x hn
    rw [sp_add, mp_rsum, (wk_needs (show n < 6 by omega)).1]
    exact ih (n + 1) _ (by omega)
theorem rF.ready_ (h : rF P R (σ 9 f) (ρ 14 f)) : sp_days σ f = mp_ready ρ f := by
  have hd := h.done
  obtain ⟨-, -, ⟨j, hj, e1, e2, e3, e4⟩, ⟨eh, ih⟩, -, -, ⟨e7, hp⟩, -⟩ := h
  have clj : (nI j).toNatClampNeg = j := nI_clamp (by omega)
  unfold sp_days mp_ready
  rw [hd]
  by_cases a : mp_isDone ρ f = 0
  · rw [if_pos a, if_pos a, e1, e2, clj, eh]
    by_cases b : σ 9 f 7 = 7
    · have h4 : σ 9 f 4 = 0 := by
        rcases hp with ⟨r, hr, z, z2⟩ | z | z | z
        · rw [z] at b
          have hj6 : j = 6 := (nI6 hj).mp (by rw [← e1, z2]; decide)
          exact (e4 hj6).2.2
        · rw [z] at b; exact absurd b (by decide)
        · rw [z.1] at b; exact absurd b (by decide)
        · exact z.2
      rw [if_pos b, if_pos h4]
    · rw [if_neg b]
      have g1 := ih.1
      by_cases c : σ 9 f 4 = 0
      · rw [if_pos c, if_neg (by rw [c]; decide)]
      · rw [if_neg c, if_pos (by
          rw [tI_lt, tI_0]
          have : ¬ (σ 9 f 4).toInt = 0 := fun z => c (tI_eq (by rw [z, tI_0]))
          omega)]
        have hj6 : j < 6 := by
          rcases Nat.lt_or_ge j 6 with z | z
          · exact z
          · exfalso
            have hj6 : j = 6 := by omega
            exact c (e4 hj6).2.2
        obtain ⟨-, q3⟩ := e3 hj6
        have es : sp_add (6 - j) j (- σ 9 f 3) = mp_rsum (ρ 14 f 3) (j + 1) (5 - j) := by
          rw [show 6 - j = (5 - j) + 1 by omega, sp_add, sp_add_rsum _ _ _ (by omega), q3]
          congr 1
          rw [Int32.sub_eq_add_neg, Int32.add_comm]
        rw [es]
  · rw [if_neg a, if_neg a]
theorem rF.left (h : rF P R (σ 9 f) (ρ 14 f)) : sp_left σ f = ρ 14 f 3 := by
  obtain ⟨-, -, ⟨j, hj, e1, e2, e3, e4⟩, -⟩ := h
  unfold sp_left
  rw [e1, nI_clamp (by omega)]
  by_cases a : j = 6
  · rw [if_pos ((nI6 hj).mpr a), (e4 a).2.1]
  · rw [if_neg (fun z => a ((nI6 hj).mp z)), (e3 (by omega)).2]
theorem mrL.mnow (h : mrL P F R N σ ρ) (hok : hs_ok P F R σ) {k : Nat} (hk : k < 15) : sp_many σ P F k = mp_mnow ρ P F R k := by
  obtain ⟨s1, s2, s3, s4, s5⟩ := h.2.1
  rcases (show k = 0 ∨ k = 1 ∨ k = 2 ∨ k = 3 ∨ k = 4 ∨ k = 5 ∨ k = 6 ∨ k = 7 ∨ k = 8 ∨ k = 9 ∨ k = 10 ∨ k = 11 ∨ k = 12 ∨ k = 13 ∨ k = 14 by omega) with rfl | rfl | rfl | rfl | rfl | rfl | rfl | rfl | rfl | rfl | rfl | rfl | rfl | rfl | rfl
  · exact s1.symm
  · exact hok.hP
  · exact hok.hF
  · exact h.done F (Nat.le_refl _)
  · exact (h.figIn 0 4 F (Nat.le_refl _)).1
  · exact (h.figIn 6 6 F (Nat.le_refl _)).1
  · exact (h.figIn 7 7 F (Nat.le_refl _)).1
  · exact hok.hR
  · exact s2.symm
  · exact s3.1.symm
  · exact h.due P (Nat.le_refl _)
  · exact s5.symm
  · exact (h.hands F (Nat.le_refl _)).1
  · exact s4.1.symm
  · exact (h.draws 0 4 F (Nat.le_refl _)).1
theorem mrL.pnow (h : mrL P F R N σ ρ) (hq : q < P) {k : Nat} (hk : k ≤ 10) : sp_ofP σ F q k = mp_pnow ρ F q k := by
  have hP := h.2.2.1 q hq
  obtain ⟨p1, p2, p3, p4, p5, p6⟩ := id hP
  have h10 := h.1.1
  unfold mp_pnow
  rcases (show k = 0 ∨ k = 1 ∨ k = 2 ∨ k = 3 ∨ k = 4 ∨ k = 5 ∨ k = 6 ∨ k = 7 ∨ k = 8 ∨ k = 9 ∨ k = 10 by omega) with rfl | rfl | rfl | rfl | rfl | rfl | rfl | rfl | rfl | rfl | rfl
  · rw [if_neg (by decide)]; exact (p1 0 (by decide)).1.symm
  · rw [if_neg (by decide)]; exact (p1 1 (by decide)).1.symm
  · rw [if_neg (by decide)]; exact (p1 2 (by decide)).1.symm
  · rw [if_neg (by decide)]; exact (p2 0 (by decide)).1.symm
  · rw [if_neg (by decide)]; exact (p2 1 (by decide)).1.symm
  · rw [if_neg (by decide)]; exact (p2 2 (by decide)).1.symm
  · rw [if_neg (by decide), p3.1]
    show (if σ 4 q 5 = 0 then 0 else 1) = σ 4 q 5
    rcases p3.2 with z | z
    · rw [z, if_pos rfl]
    · rw [z, if_neg (by decide)]
  · rw [if_neg (by decide)]; exact p4.symm
  · rw [if_pos (by decide), if_pos (by decide)]; exact hP.doubt.1
  · rw [if_pos (by decide), if_neg (by decide), if_pos (by decide)]; exact p5.symm
  · rw [if_pos (by decide), if_neg (by decide), if_neg (by decide)]; exact h.shownOf q (by omega) F 0 (by omega)
theorem mrL.fnow (h : mrL P F R N σ ρ) (hf : f < F) {k : Nat} (hk : k < 12) : sp_ofF σ f k = mp_fnow ρ f k := by
  have hF := h.2.2.2.1 f hf
  obtain ⟨⟨h0, k0, a0, b0⟩, ⟨h1, k1, a1, b1⟩, ⟨j, hj, e1, e2, e3, e4⟩, ⟨eh, -⟩, ⟨ef, -⟩, ⟨ew, -⟩, ⟨ea, -⟩, ⟨el, -⟩, ed, et⟩ := id hF
  have h10 := h.1.1
  rcases (show k = 0 ∨ k = 1 ∨ k = 2 ∨ k = 3 ∨ k = 4 ∨ k = 5 ∨ k = 6 ∨ k = 7 ∨ k = 8 ∨ k = 9 ∨ k = 10 ∨ k = 11 by omega) with rfl | rfl | rfl | rfl | rfl | rfl | rfl | rfl | rfl | rfl | rfl | rfl
  · show nI (σ 9 f 0).toNatClampNeg = ρ 14 f 0
    rw [a0, b0, nI_clamp (by omega)]
  · show nI (σ 9 f 1).toNatClampNeg = ρ 14 f 1
    rw [a1, b1, nI_clamp (by omega)]
  · exact e1.trans e2.symm
  · exact hF.left
  · exact eh.symm
  · exact ef.symm
  · exact ew.symm
  · exact (hF.like h.1.1 h.2.2.1).1
  · exact ea.symm
  · exact ed.symm
  · exact (hF.draw h.1.1 h.1.2.2 h.2.2.1).1
  · exact et.symm
theorem mrL.rnow (h : mrL P F R N σ ρ) {r : Nat} (hr : r < R) {k : Nat} (hk : k < 4) : sp_ofR σ F r k = mp_rnow ρ F r k := by
  obtain ⟨l1, l2, l3⟩ := h.2.2.2.2 r hr
  rcases (show k = 0 ∨ k = 1 ∨ k = 2 ∨ k = 3 by omega) with rfl | rfl | rfl | rfl
  · exact l1.symm
  · exact l2.symm
  · show σ 10 r 1 - sp_figIn σ (nI r) (nI r) F = ρ 6 0 r - mp_many ρ (nI r) F
    rw [l2, h.many (nI r) F (Nat.le_refl _)]
  · exact (h.draws (nI r) (nI r) F (Nat.le_refl _)).1
theorem sp_pick0 {t : Int32 × Int32 × Int32} {x y : Int32} {n : Nat} (h : t.1 = -1) : sp_pick t x y n = (nI n, x, y) := by
  unfold sp_pick
  rw [if_pos h]
theorem sp_pick1 {b n : Nat} {fb db x y : Int32} (hb : b < 2 ^ 31) : sp_pick (nI b, fb, db) x y n = if fb < x then (nI n, x, y) else if x = fb then (if db ≤ y then (nI b, fb, db) else (nI n, x, y)) else (nI b, fb, db) := by
  have hb1 : ¬ nI b = -1 := fun z => by
    have h1 := nI_pos (n := b) hb
    rw [z] at h1
    exact h1 (by decide)
  unfold sp_pick
  exact if_neg hb1
theorem mrL.best (h : mrL P F R N σ ρ) : ∀ n, n ≤ P → (mp_next ρ F n = none ∧ (sp_best σ F n).1 = -1) ∨ ∃ b, b < n ∧ mp_next ρ F n = some b ∧ sp_best σ F n = (nI b, sp_fame σ b 0 6, sp_doubt σ b) := by
  intro n
  induction n with
  | zero => exact fun _ => Or.inl ⟨rfl, rfl⟩
  | succ n ih =>
    intro hn
    have hP := h.2.2.1 n (by omega)
    have h10 := h.1.1
    have i := ih (by omega)
    rw [mp_next, sp_best, ← hP.2.2.1.1, ← h.has n (by omega) F 0 (by omega)]
    by_cases a : ρ 11 n 6 = 0
    · rw [if_pos a, if_pos a]
      rcases i with z | ⟨b, hb, z⟩
      · exact Or.inl z
      · exact Or.inr ⟨b, by omega, z⟩
    · rw [if_neg a, if_neg a]
      by_cases c : sp_hasFrom σ n F 0 = 0
      · rw [if_pos c, if_pos c]
        right
        rcases i with ⟨z1, z2⟩ | ⟨b, hb, z1, z2⟩
        · rw [z1, sp_pick0 z2]
          exact ⟨n, by omega, rfl, rfl⟩
        · have hB := h.2.2.1 b (by omega)
          obtain ⟨f1, f2⟩ := hP.fame (j := 0) (by decide) 6
          obtain ⟨f3, f4⟩ := hB.fame (j := 0) (by decide) 6
          have d1 := hP.doubt.1
          have d2 := hB.doubt.1
          rw [z1, z2, sp_pick1 (by omega), mp_pick]
          unfold mp_more
          rw [← f1, ← f3, ← d1, ← d2]
          have x1 := f2.1; have x2 := f2.2; have y1 := f4.1; have y2 := f4.2
          have em : (sp_fame σ n 0 6 - sp_fame σ b 0 6).toInt = (sp_fame σ n 0 6).toInt - (sp_fame σ b 0 6).toInt := tI_sub (by omega) (by omega)
          by_cases u : sp_fame σ b 0 6 < sp_fame σ n 0 6
          · rw [if_pos u, if_pos (show 0 < sp_fame σ n 0 6 - sp_fame σ b 0 6 by rw [tI_lt] at u ⊢; rw [em, tI_0]; omega)]
            exact ⟨n, by omega, rfl, rfl⟩
          · rw [if_neg u, if_neg (show ¬ 0 < sp_fame σ n 0 6 - sp_fame σ b 0 6 by rw [tI_lt] at u ⊢; rw [em, tI_0]; omega)]
            by_cases v : sp_fame σ n 0 6 = sp_fame σ b 0 6
            · rw [if_pos v, if_pos (show sp_fame σ n 0 6 - sp_fame σ b 0 6 = 0 from tI_eq (by rw [em, v, tI_0]; omega))]
              by_cases w : sp_doubt σ b ≤ sp_doubt σ n
              · rw [if_pos w, if_pos w]
                exact ⟨b, by omega, rfl, rfl⟩
              · rw [if_neg w, if_neg w]
                exact ⟨n, by omega, rfl, rfl⟩
            · rw [if_neg v, if_neg (show ¬ sp_fame σ n 0 6 - sp_fame σ b 0 6 = 0 from fun z => v (tI_eq (by rw [z, tI_0] at em; omega)))]
              exact ⟨b, by omega, rfl, rfl⟩
      · rw [if_neg c, if_neg c]
        rcases i with z | ⟨b, hb, z⟩
        · exact Or.inl z
        · exact Or.inr ⟨b, by omega, z⟩
theorem mrL.next (h : mrL P F R N σ ρ) : (sp_best σ F P).1 = mp_bi (mp_next ρ F P) := by
  rcases h.best P (Nat.le_refl _) with ⟨z1, z2⟩ | ⟨b, -, z1, z2⟩
  · rw [z1, z2]
    rfl
  · rw [z1, z2]
    rfl
theorem mrL.mean (h : mrL P F R N σ ρ) : mp_mean ρ F = if sp_figIn σ 0 4 F = 0 then FP.dconst0 else FP.ddiv (FP.i2d (sp_liked σ F)) (FP.i2d (sp_figIn σ 0 4 F)) := by
  unfold mp_mean
  rw [(h.figIn 0 4 F (Nat.le_refl _)).1, h.liked F (Nat.le_refl _)]
/-- the digest -/
theorem mrL.digest (h : mrL P F R N σ ρ) (hok : hs_ok P F R σ) (σ2 : hs_St) : (sp_dig σ σ2 P F R).1 = mp_dig ρ P F R := by
  have gM : ∀ n, n ≤ 15 → sp_gM σ P F n = mp_gM ρ P F R n := by
    intro n
    induction n with
    | zero => exact fun _ => rfl
    | succ n ih =>
      intro hn
      rw [sp_gM, mp_gM, ih (by omega), h.mnow hok (by omega)]
  have gP : ∀ q, q < P → ∀ d n, n ≤ 11 → sp_gP σ F q d n = mp_gP ρ F q d n := by
    intro q hq d n
    induction n with
    | zero => exact fun _ => rfl
    | succ n ih =>
      intro hn
      rw [sp_gP, mp_gP, ih (by omega), h.pnow hq (by omega)]
  have gK : ∀ q, q < P → ∀ d n, n ≤ 6 → sp_gK σ q d n = mp_gK ρ q d n := by
    intro q hq d n
    induction n with
    | zero => exact fun _ => rfl
    | succ n ih =>
      intro hn
      obtain ⟨e1, e2, -⟩ := (h.2.2.1 q hq).2.2.2.2.2 n (by omega)
      rw [sp_gK, mp_gK, ih (by omega), e1, e2]
  have gPs : ∀ d n, n ≤ P → sp_gPs σ F d n = mp_gPs ρ F d n := by
    intro d n
    induction n with
    | zero => exact fun _ => rfl
    | succ n ih =>
      intro hn
      rw [sp_gPs, mp_gPs, ih (by omega)]
      unfold sp_gW
      rw [gP n (by omega) _ 11 (Nat.le_refl _), gK n (by omega) _ 6 (Nat.le_refl _), ((h.2.2.1 n (by omega)).fame (j := 0) (by decide) 9).1]
  have gF : ∀ f, f < F → ∀ d n, n ≤ 12 → sp_gF σ f d n = mp_gF ρ f d n := by
    intro f hf d n
    induction n with
    | zero => exact fun _ => rfl
    | succ n ih =>
      intro hn
      rw [sp_gF, mp_gF, ih (by omega), h.fnow hf (by omega)]
  have gFs : ∀ d n, n ≤ F → (sp_gFs σ σ2 P F R d n).1 = mp_gFs ρ P F d n := by
    intro d n
    induction n with
    | zero => exact fun _ => rfl
    | succ n ih =>
      intro hn
      rw [sp_gFs, mp_gFs]
      dsimp only
      rw [ih (by omega), gF n (by omega) _ 12 (Nat.le_refl _), (h.2.2.2.1 n (by omega)).ready_, h.melts (by omega) _ (show I_ 900 0 2000 from ⟨by decide, by decide⟩) (show I_ 30 0 40 from ⟨by decide, by decide⟩)]
  have gR : ∀ r, r < R → ∀ d n, n ≤ 4 → sp_gR σ F r d n = mp_gR ρ F r d n := by
    intro r hr d n
    induction n with
    | zero => exact fun _ => rfl
    | succ n ih =>
      intro hn
      rw [sp_gR, mp_gR, ih (by omega), h.rnow hr (by omega)]
  have gRs : ∀ d n, n ≤ R → sp_gRs σ F d n = mp_gRs ρ F d n := by
    intro d n
    induction n with
    | zero => exact fun _ => rfl
    | succ n ih =>
      intro hn
      rw [sp_gRs, mp_gRs, ih (by omega), gR n (by omega) _ 4 (Nat.le_refl _)]
  unfold sp_dig mp_dig
  dsimp only
  unfold sp_gE
  rw [gM 15 (Nat.le_refl _), gPs _ P (Nat.le_refl _), gFs _ F (Nat.le_refl _), gRs _ R (Nat.le_refl _), h.next]
end RELA
