/-! SIDE BY SIDE: the other calls -/
section SIM2
variable {P F R N q f : Nat} {σ ρ σ' ρ' : hs_St} {b : Int32} {X : mm_X}
theorem mp_in_1I {x : Int32} {hi : Int32} (h : ¬ mp_in x 1 hi = 0) : I_ x 1 hi.toInt := mp_in_I h
theorem mrL.setR {r : Nat} (h : mrL P F R N σ ρ) (hs : ∀ k i j, ¬ (k = 10 ∧ i = r) → σ' k i j = σ k i j) (gs : ∀ k i j, ¬ ((k = 5 ∨ k = 6) ∧ i = 0 ∧ j = r) → ρ' k i j = ρ k i j) (hr : rR σ' ρ' r) : mrL P F R N σ' ρ' := by
  refine ⟨h.1, h.2.1.same (fun j _ => hs _ _ _ (by omega)) (fun j _ => gs _ _ _ (by omega)), fun p hp => (h.2.2.1 p hp).same (fun j => hs _ _ _ (by omega)) (fun j => hs _ _ _ (by omega)) (fun j => hs _ _ _ (by omega)) (fun j => hs _ _ _ (by omega)) (fun j => hs _ _ _ (by omega)) (fun j => gs _ _ _ (by omega)) (fun j => gs _ _ _ (by omega)) (fun j => gs _ _ _ (by omega)), fun g hg => (h.2.2.2.1 g hg).same (fun j => hs _ _ _ (by omega)) (fun j => gs _ _ _ (by omega)), fun r' hr' => ?_⟩
  by_cases e : r' = r
  · subst e
    exact hr
  · exact (h.2.2.2.2 r' hr').same (hs _ _ _ (by omega)) (hs _ _ _ (by omega)) (gs _ _ _ (by omega)) (gs _ _ _ (by omega))
theorem mrL.lamp_ {r : Nat} (h : mrL P F R N σ ρ) (hr : r < R) {v : Int32} (hv : I_ v 0 9) : mrL P F R N (hs_sg σ 10 r 0 v) (hs_sg ρ 5 0 r v) := by
  obtain ⟨l1, l2, l3⟩ := h.2.2.2.2 r hr
  refine h.setR (r := r) (fun k i j z => by rw [pc9, if_neg (by omega)]) (fun k i j z => by rw [pc9, if_neg (by omega)]) ?_
  unfold rR
  rw [sgv, if_pos rfl, sgv, if_pos rfl, sgv, if_neg (by decide), pc9, if_neg (by omega)]
  exact ⟨rfl, l2, hv⟩
def cl_lamps (R : Nat) (σ : hs_St) (x y : Int32) : cl_X := if mp_in x 0 (nI R - 1) = 0 then (1, 0, σ) else if mp_in y 0 9 = 0 then (2, 0, σ) else (0, σ 10 x.toNatClampNeg 0, hs_sg σ 10 x.toNatClampNeg 0 y)
theorem sim_lamps {x y : Int32} (h : mr P F R N σ ρ) (hp : if mp_in x 0 (nI R - 1) = 0 then (0 : Int32) = b ∧ (1 : Int32) = X.1 ∧ ρ = X.2 else if mp_in y 0 9 = 0 then (0 : Int32) = b ∧ (2 : Int32) = X.1 ∧ ρ = X.2 else ρ 5 0 x.toNatClampNeg = b ∧ (0 : Int32) = X.1 ∧ hs_sg ρ 5 0 x.toNatClampNeg y = X.2) : sim R N (cl_lamps R σ x y) b X := by
  unfold cl_lamps
  by_cases c1 : mp_in x 0 (nI R - 1) = 0
  · rw [if_pos c1] at hp ⊢
    exact sim_err h 1 (by decide) hp.2
  · rw [if_neg c1] at hp ⊢
    by_cases c2 : mp_in y 0 9 = 0
    · rw [if_pos c2] at hp ⊢
      exact sim_err h 2 (by decide) hp.2
    · rw [if_neg c2] at hp ⊢
      have h5 := h.2.2.1.1.2.2
      obtain ⟨r, hr, rfl⟩ := mp_in_ix (by omega) c1
      have cr : (nI r).toNatClampNeg = r := nI_clamp (by omega)
      rw [cr] at hp ⊢
      refine sim_ok ((h.put (h.2.2.1.lamp_ hr (mp_in_I c2)) (fun j h3 h6 => by rw [pc9, if_neg (by omega)]) (fun j h3 h6 => by rw [pc9, if_neg (by omega)]) (fun k i j y => by rw [pc9, if_neg (by unfold dS at y; omega)]) (fun k i j y => by rw [pc9, if_neg (by unfold dR at y; omega)])).up (Nat.le_succ N)) (Nat.le_refl _) ?_ hp.2
      rw [← hp.1]
      exact (h.2.2.1.2.2.2.2 r hr).1.symm
def cl_take (F : Nat) (σ : hs_St) (x : Int32) : cl_X := if mp_in x 0 (nI F - 1) = 0 then (1, 0, σ) else if sp_isShown σ x.toNatClampNeg = 0 then (2, 0, σ) else (0, σ 9 x.toNatClampNeg 7, hs_sg σ 9 x.toNatClampNeg 7 5)
theorem sim_take {x : Int32} (h : mr P F R N σ ρ) (hp : if mp_in x 0 (nI F - 1) = 0 then (0 : Int32) = b ∧ (1 : Int32) = X.1 ∧ ρ = X.2 else if ρ 14 x.toNatClampNeg 7 < 5 then ρ 14 x.toNatClampNeg 7 = b ∧ (0 : Int32) = X.1 ∧ hs_sg ρ 14 x.toNatClampNeg 7 5 = X.2 else (0 : Int32) = b ∧ (2 : Int32) = X.1 ∧ ρ = X.2) : sim R N (cl_take F σ x) b X := by
  unfold cl_take
  by_cases c1 : mp_in x 0 (nI F - 1) = 0
  · rw [if_pos c1] at hp ⊢
    exact sim_err h 1 (by decide) hp.2
  · rw [if_neg c1] at hp ⊢
    have h8 := h.2.2.1.1.2.1
    obtain ⟨f, hf, rfl⟩ := mp_in_ix (by omega) c1
    have cf : (nI f).toNatClampNeg = f := nI_clamp (by omega)
    rw [cf] at hp ⊢
    have hF := h.2.2.1.2.2.2.1 f hf
    have e := hF.shown h.2.2.1.1.2.2
    have e7 := hF.2.2.2.2.2.2.1.1
    unfold mp_isShown at e
    by_cases c2 : sp_isShown σ f = 0
    · rw [if_pos c2]
      rw [c2] at e
      rw [if_neg (show ¬ ρ 14 f 7 < 5 from fun z => by rw [if_neg (Int32.not_le.mpr z)] at e; exact absurd e (by decide))] at hp
      exact sim_err h 2 (by decide) hp.2
    · rw [if_neg c2]
      rw [if_pos (show ρ 14 f 7 < 5 from Int32.not_le.mp fun z => by rw [if_pos z] at e; exact c2 e)] at hp
      refine sim_ok ((h.put (h.2.2.1.place hf (Or.inr rfl)) (fun j h3 h6 => by rw [pc9, if_neg (by omega)]) (fun j h3 h6 => by rw [pc9, if_neg (by omega)]) (fun k i j y => by rw [pc9, if_neg (by unfold dS at y; omega)]) (fun k i j y => by rw [pc9, if_neg (by unfold dR at y; omega)])).up (Nat.le_succ N)) (Nat.le_refl _) ?_ hp.2
      rw [← hp.1]
      exact e7.symm
theorem mrL.wear_ (h : mrL P F R N σ ρ) (hf : f < F) {v : Int32} (hv : I_ v 0 100) : mrL P F R N (hs_sg σ 9 f 6 v) (hs_sg ρ 14 f 6 v) := h.fig1 hf 6 ((h.2.2.2.1 f hf).wears (fun i => sgv) (fun i => sgv) hv)
theorem mrL.cleans (h : mrL P F R N σ ρ) (x : Int32) : ∀ n, n ≤ F → mrL P F R N (sp_clean σ x n) (mp_clean ρ x n) := by
  intro n
  induction n with
  | zero => exact fun _ => h
  | succ n ih =>
    intro hn
    have i1 := ih (by omega)
    have hF := i1.2.2.2.1 n (by omega)
    obtain ⟨-, -, -, -, -, ⟨ew, iw⟩, ⟨ea, -⟩, -⟩ := hF
    rw [sp_clean, mp_clean, ea, ew]
    by_cases c : sp_clean σ x n 9 n 7 = x
    · rw [if_pos c, if_pos c]
      have w1 := iw.1; have w2 := iw.2
      have e6 : (6 : Int32).toInt = 6 := rfl
      have em : (sp_clean σ x n 9 n 6 - 6).toInt = (sp_clean σ x n 9 n 6).toInt - 6 := tI_sub (by rw [e6]; omega) (by rw [e6]; omega)
      have ee : (if sp_clean σ x n 9 n 6 - 6 < 0 then 0 else sp_clean σ x n 9 n 6 - 6) = mp_max 0 (sp_clean σ x n 9 n 6 - 6) ∧ I_ (mp_max 0 (sp_clean σ x n 9 n 6 - 6)) 0 100 := by
        unfold mp_max
        by_cases a : 0 < sp_clean σ x n 9 n 6 - 6
        · rw [if_pos a, if_neg (fun z => by rw [tI_lt, tI_0] at a z; omega)]
          rw [tI_lt, tI_0] at a
          exact ⟨rfl, by omega, by omega⟩
        · rw [if_neg a]
          refine ⟨?_, by decide, by decide⟩
          by_cases z : sp_clean σ x n 9 n 6 - 6 < 0
          · rw [if_pos z]
          · rw [if_neg z]
            rw [tI_lt, tI_0] at a z
            exact tI_eq (by rw [tI_0]; omega)
      rw [ee.1]
      exact i1.wear_ (by omega) ee.2
    · rw [if_neg c, if_neg c]
      exact i1
theorem sp_clean_off (σ : hs_St) (x : Int32) (k i j : Nat) : ∀ n, (k = 9 → n ≤ i) → sp_clean σ x n k i j = σ k i j := by
  intro n
  induction n with
  | zero => exact fun _ => rfl
  | succ n ih =>
    intro h
    have i1 := ih (by omega)
    rw [sp_clean]
    split
    · rw [pc9, if_neg (by omega)]
      exact i1
    · exact i1
theorem mp_clean_off (ρ : hs_St) (x : Int32) (k i j : Nat) (h : ¬ k = 14) : ∀ n, mp_clean ρ x n k i j = ρ k i j := by
  intro n
  induction n with
  | zero => rfl
  | succ n ih =>
    rw [mp_clean]
    split
    · rw [pc9, if_neg (by omega)]
      exact ih
    · exact ih
def cl_clean (F R : Nat) (σ : hs_St) (x : Int32) : cl_X := if mp_in x 0 (nI R - 1) = 0 then (1, 0, σ) else (0, sp_clean (hs_sg σ 0 0 7 (σ 0 0 7 - 5)) x F 0 0 7, sp_clean (hs_sg σ 0 0 7 (σ 0 0 7 - 5)) x F)
theorem sim_clean {x : Int32} (h : mr P F R N σ ρ) (hp : mp_cleanP F R ρ x b X) : sim R N (cl_clean F R σ x) b X := by
  unfold mp_cleanP at hp
  unfold cl_clean
  by_cases c1 : mp_in x 0 (nI R - 1) = 0
  · rw [if_pos c1] at hp ⊢
    exact sim_err h 1 (by decide) hp.2
  · rw [if_neg c1] at hp ⊢
    have s2 := h.2.2.1.2.1.2.1
    rw [s2] at hp
    have hl := (h.2.2.1.money (σ 0 0 7 - 5)).cleans x F (Nat.le_refl _)
    have s2 := hl.2.1.2.1
    refine sim_ok ((h.put hl (fun j h3 h6 => by rw [sp_clean_off _ _ _ _ _ F (by omega), pc9, if_neg (by omega)]) (fun j h3 h6 => by rw [mp_clean_off _ _ _ _ _ (by decide) F, pc9, if_neg (by omega)]) (fun k i j y => by unfold dS at y; rw [sp_clean_off _ _ _ _ _ F (by omega), pc9, if_neg (by omega)]) (fun k i j y => by unfold dR at y; rw [mp_clean_off _ _ _ _ _ (by omega) F, pc9, if_neg (by omega)])).up (Nat.le_succ N)) (Nat.le_refl _) ?_ hp.2
    rw [← hp.1]
    exact s2.symm
def cl_work (F : Nat) (σ : hs_St) (x y : Int32) : cl_X := if mp_in x 0 (nI F - 1) = 0 then (1, 0, σ) else if mp_in y 0 9 = 0 then (2, 0, σ) else if 6 ≤ σ 9 x.toNatClampNeg 2 ∨ σ 9 x.toNatClampNeg 7 = 7 ∨ 12 < sp_hands σ F - σ 9 x.toNatClampNeg 4 + y then (3, 0, σ) else (0, sp_hands σ F - σ 9 x.toNatClampNeg 4 + y, hs_sg σ 9 x.toNatClampNeg 4 y)
theorem sim_work {x y : Int32} (h : mr P F R N σ ρ) (hp : if mp_in x 0 (nI F - 1) = 0 then (0 : Int32) = b ∧ (1 : Int32) = X.1 ∧ ρ = X.2 else if mp_in y 0 9 = 0 then (0 : Int32) = b ∧ (2 : Int32) = X.1 ∧ ρ = X.2 else if ρ 14 x.toNatClampNeg 2 = 6 ∨ ρ 14 x.toNatClampNeg 7 = 7 ∨ ¬ mp_hands ρ F - ρ 14 x.toNatClampNeg 4 + y ≤ 12 then (0 : Int32) = b ∧ (3 : Int32) = X.1 ∧ ρ = X.2 else mp_hands ρ F - ρ 14 x.toNatClampNeg 4 + y = b ∧ (0 : Int32) = X.1 ∧ hs_sg ρ 14 x.toNatClampNeg 4 y = X.2) : sim R N (cl_work F σ x y) b X := by
  unfold cl_work
  by_cases c1 : mp_in x 0 (nI F - 1) = 0
  · rw [if_pos c1] at hp ⊢
    exact sim_err h 1 (by decide) hp.2
  · rw [if_neg c1] at hp ⊢
    by_cases c2 : mp_in y 0 9 = 0
    · rw [if_pos c2] at hp ⊢
      exact sim_err h 2 (by decide) hp.2
    · rw [if_neg c2] at hp ⊢
      have h8 := h.2.2.1.1.2.1
      obtain ⟨f, hf, rfl⟩ := mp_in_ix (by omega) c1
      have cf : (nI f).toNatClampNeg = f := nI_clamp (by omega)
      rw [cf] at hp ⊢
      have hF := h.2.2.1.2.2.2.1 f hf
      obtain ⟨-, -, ⟨j, hj, a2, b2, -⟩, ⟨e4, -⟩, -, -, ⟨e7, -⟩, -⟩ := id hF
      have eh := (h.2.2.1.hands F (Nat.le_refl _)).1
      rw [b2, e7, e4, ← eh] at hp
      rw [a2]
      have ci : (6 ≤ nI j ∨ σ 9 f 7 = 7 ∨ 12 < sp_hands σ F - σ 9 f 4 + y) ↔ (nI j = 6 ∨ σ 9 f 7 = 7 ∨ ¬ (sp_hands σ F - σ 9 f 4 + y ≤ 12)) := by rw [Int32.not_le]; exact or_congr_left ⟨fun z => by rw [(nI6 hj).mp z]; rfl, fun z => by rw [z]; decide⟩
      by_cases c3 : nI j = 6 ∨ σ 9 f 7 = 7 ∨ ¬ (sp_hands σ F - σ 9 f 4 + y ≤ 12)
      · rw [if_pos c3] at hp
        rw [if_pos (ci.mpr c3)]
        exact sim_err h 3 (by decide) hp.2
      · rw [if_neg c3] at hp
        rw [if_neg (fun z => c3 (ci.mp z))]
        refine sim_ok ((h.put (h.2.2.1.fig1 hf 4 (hF.hands (fun i => sgv) (fun i => sgv) (mp_in_I c2) (by rw [a2]; exact fun z => c3 (Or.inl z)) (fun z => c3 (Or.inr (Or.inl z))))) (fun j h3 h6 => by rw [pc9, if_neg (by omega)]) (fun j h3 h6 => by rw [pc9, if_neg (by omega)]) (fun k i j y => by rw [pc9, if_neg (by unfold dS at y; omega)]) (fun k i j y => by rw [pc9, if_neg (by unfold dR at y; omega)])).up (Nat.le_succ N)) (Nat.le_refl _) ?_ hp.2
        exact hp.1
theorem mrL.mends (h : mrL P F R N σ ρ) (hf : f < F) : mrL P F R N (sp_mend σ f) (mp_mend ρ f) ∧ mp_mend ρ f 14 f 6 = σ 9 f 6 - sp_tens σ f * 10 := by
  have hF := h.2.2.2.1 f hf
  obtain ⟨-, -, -, -, -, ⟨ew, iw⟩, -⟩ := id hF
  obtain ⟨s1, s2, ⟨s3, i3⟩, s4, s5⟩ := h.2.1
  have et : sp_tens σ f = mp_tens ρ f := by
    unfold sp_tens mp_tens mp_min
    rw [ew, s3]
  have e10 : mp_tens ρ f * 10 = 10 * mp_tens ρ f := Int32.mul_comm _ _
  have w1 := iw.1; have w2 := iw.2
  have x1 := i3.1
  have k10 : (10 : Int32).toInt = 10 := rfl
  have d1 : (σ 9 f 6 / 10).toInt = (σ 9 f 6).toInt / 10 := tI_div w1 (by decide)
  have d2 : (σ 0 0 8 / 10).toInt = (σ 0 0 8).toInt / 10 := tI_div x1 (by decide)
  have t0 : (0 : Int) ≤ (sp_tens σ f).toInt ∧ (sp_tens σ f).toInt * 10 ≤ (σ 9 f 6).toInt ∧ (sp_tens σ f).toInt * 10 ≤ (σ 0 0 8).toInt := by
    unfold sp_tens
    by_cases a : σ 0 0 8 / 10 < σ 9 f 6 / 10
    · rw [if_pos a]
      rw [tI_lt] at a
      omega
    · rw [if_neg a]
      rw [tI_lt] at a
      omega
  have em : (sp_tens σ f * 10).toInt = (sp_tens σ f).toInt * 10 := tI_mul (by rw [k10]; omega) (by rw [k10]; omega)
  have u1 : (σ 9 f 6 - sp_tens σ f * 10).toInt = (σ 9 f 6).toInt - (sp_tens σ f).toInt * 10 := by
    have := tI_sub (x := σ 9 f 6) (y := sp_tens σ f * 10) (by rw [em]; omega) (by rw [em]; omega)
    rw [this, em]
  have hw : (σ 0 0 8).toInt < 2147483648 := Int32.toInt_lt _
  have u2 : (σ 0 0 8 - sp_tens σ f * 10).toInt = (σ 0 0 8).toInt - (sp_tens σ f).toInt * 10 := by
    have := tI_sub (x := σ 0 0 8) (y := sp_tens σ f * 10) (by rw [em]; omega) (by rw [em]; omega)
    rw [this, em]
  unfold sp_mend mp_mend
  rw [← e10, ← et, ew, s3]
  refine ⟨(h.wear_ hf ⟨by rw [u1]; omega, by rw [u1]; omega⟩).wax_ ⟨by rw [u2]; omega, by rw [u2]; have := i3.2; omega⟩, ?_⟩
  rw [pc9, if_neg (by omega), sgv, if_pos rfl]
def cl_mend (F : Nat) (σ : hs_St) (x : Int32) : cl_X := if mp_in x 0 (nI F - 1) = 0 then (1, 0, σ) else if sp_isReady σ x.toNatClampNeg = 0 then (2, 0, σ) else (0, σ 9 x.toNatClampNeg 6 - sp_tens σ x.toNatClampNeg * 10, sp_mend σ x.toNatClampNeg)
theorem sim_mend {x : Int32} (h : mr P F R N σ ρ) (hp : if mp_in x 0 (nI F - 1) = 0 then (0 : Int32) = b ∧ (1 : Int32) = X.1 ∧ ρ = X.2 else if mp_hand ρ x.toNatClampNeg = 0 then (0 : Int32) = b ∧ (2 : Int32) = X.1 ∧ ρ = X.2 else mp_mend ρ x.toNatClampNeg 14 x.toNatClampNeg 6 = b ∧ (0 : Int32) = X.1 ∧ mp_mend ρ x.toNatClampNeg = X.2) : sim R N (cl_mend F σ x) b X := by
  unfold cl_mend
  by_cases c1 : mp_in x 0 (nI F - 1) = 0
  · rw [if_pos c1] at hp ⊢
    exact sim_err h 1 (by decide) hp.2
  · rw [if_neg c1] at hp ⊢
    have h8 := h.2.2.1.1.2.1
    obtain ⟨f, hf, rfl⟩ := mp_in_ix (by omega) c1
    have cf : (nI f).toNatClampNeg = f := nI_clamp (by omega)
    rw [cf] at hp ⊢
    have hF := h.2.2.1.2.2.2.1 f hf
    rw [← hF.ready] at hp
    obtain ⟨hl, er⟩ := h.2.2.1.mends hf
    by_cases c2 : sp_isReady σ f = 0
    · rw [if_pos c2] at hp ⊢
      exact sim_err h 2 (by decide) hp.2
    · rw [if_neg c2] at hp ⊢
      refine sim_ok ((h.put hl (fun j h3 h6 => by unfold sp_mend; rw [pc9, if_neg (by omega), pc9, if_neg (by omega)]) (fun j h3 h6 => by unfold mp_mend; rw [pc9, if_neg (by omega), pc9, if_neg (by omega)]) (fun k i j y => by unfold dS at y; unfold sp_mend; rw [pc9, if_neg (by omega), pc9, if_neg (by omega)]) (fun k i j y => by unfold dR at y; unfold mp_mend; rw [pc9, if_neg (by omega), pc9, if_neg (by omega)])).up (Nat.le_succ N)) (Nat.le_refl _) ?_ hp.2
      rw [← hp.1, er]
theorem mrL.melted_ (h : mrL P F R N σ ρ) (hf : f < F) (hN : N < 100000) : mrL P F R (N + 1) (sp_melt (sp_wax σ f) f) (mp_melt ρ f) := by
  have hF := h.2.2.2.1 f hf
  obtain ⟨-, -, ⟨j, hj, a2, b2, -⟩, -⟩ := id hF
  obtain ⟨s1, s2, ⟨s3, i3⟩, s4, s5⟩ := h.2.1
  have i1 := i3.1; have i2 := i3.2
  have k20 : (20 : Int32).toInt = 20 := rfl
  have h1 : mrL P F R N (hs_sg (hs_sg σ 9 f 7 7) 9 f 4 0) (hs_sg (hs_sg ρ 14 f 7 7) 14 f 4 0) := by
    refine h.fig hf (fun k i jj y => by rw [pc9, if_neg (by omega), pc9, if_neg (by omega)]) (fun k i jj y => by rw [pc9, if_neg (by omega), pc9, if_neg (by omega)]) (fun hF => hF.melted (fun i => ?_) (fun i => ?_))
    · rw [sgv, sgv]
      by_cases e : i = 7
      · rw [e, if_neg (by decide), if_pos rfl, if_pos rfl]
      · rw [if_neg e, if_neg e]
    · rw [sgv, sgv]
      by_cases e : i = 7
      · rw [e, if_neg (by decide), if_pos rfl, if_pos rfl]
      · rw [if_neg e, if_neg e]
  unfold mp_melt
  rw [b2, s3]
  unfold sp_wax
  rw [a2]
  by_cases c : nI j ≤ 3
  · rw [if_pos c, if_pos c, Int32.add_zero]
    have e : sp_melt σ f = hs_sg (sp_melt σ f) 0 0 8 (σ 0 0 8) := by
      funext k i jj
      rw [pc9]
      split
      · rename_i z
        obtain ⟨rfl, rfl, rfl⟩ := z
        unfold sp_melt
        rw [pc9, if_neg (by omega), pc9, if_neg (by omega)]
      · rfl
    rw [e]
    exact h1.wax_ (N' := N + 1) ⟨i1, by omega⟩
  · rw [if_neg c, if_neg c]
    have e : sp_melt (hs_sg σ 0 0 8 (σ 0 0 8 + 20)) f = hs_sg (hs_sg (hs_sg σ 9 f 7 7) 9 f 4 0) 0 0 8 (σ 0 0 8 + 20) := by
      funext k i jj
      unfold sp_melt
      by_cases z : k = 0
      · rw [pc9, if_neg (by omega), pc9, if_neg (by omega), pc9, pc9 (σ := hs_sg (hs_sg σ 9 f 7 7) 9 f 4 0), show hs_sg (hs_sg σ 9 f 7 7) 9 f 4 0 k i jj = σ k i jj by rw [pc9, if_neg (by omega), pc9, if_neg (by omega)]]
      · simp only [pc9]
        have z8 : ¬ (k = 0 ∧ i = 0 ∧ jj = 8) := by omega
        rw [if_neg z8, if_neg z8]
    rw [e]
    have eu : (σ 0 0 8 + 20).toInt = (σ 0 0 8).toInt + 20 := tI_add (by rw [k20]; omega) (by rw [k20]; omega)
    exact h1.wax_ (N' := N + 1) ⟨by rw [eu]; omega, by rw [eu]; omega⟩
theorem sp_melt_off (σ : hs_St) (f k i j : Nat) (h : ¬ (k = 9 ∧ i = f)) (h0 : ¬ (k = 0 ∧ j = 8)) : sp_melt (sp_wax σ f) f k i j = σ k i j := by
  unfold sp_melt sp_wax
  rw [pc9, if_neg (by omega), pc9, if_neg (by omega)]
  split
  · rfl
  · rw [pc9, if_neg (by omega)]
def cl_melt (F : Nat) (σ : hs_St) (x : Int32) : cl_X := if mp_in x 0 (nI F - 1) = 0 then (1, 0, σ) else if ¬ σ 9 x.toNatClampNeg 7 = 5 then (2, 0, σ) else (0, sp_melt (sp_wax σ x.toNatClampNeg) x.toNatClampNeg 0 0 8, sp_melt (sp_wax σ x.toNatClampNeg) x.toNatClampNeg)
theorem sim_melt {x : Int32} (hN : N < 100000) (h : mr P F R N σ ρ) (hp : if mp_in x 0 (nI F - 1) = 0 then (0 : Int32) = b ∧ (1 : Int32) = X.1 ∧ ρ = X.2 else if ρ 14 x.toNatClampNeg 7 = 5 then mp_melt ρ x.toNatClampNeg 0 0 13 = b ∧ (0 : Int32) = X.1 ∧ mp_melt ρ x.toNatClampNeg = X.2 else (0 : Int32) = b ∧ (2 : Int32) = X.1 ∧ ρ = X.2) : sim R N (cl_melt F σ x) b X := by
  unfold cl_melt
  by_cases c1 : mp_in x 0 (nI F - 1) = 0
  · rw [if_pos c1] at hp ⊢
    exact sim_err h 1 (by decide) hp.2
  · rw [if_neg c1] at hp ⊢
    have h8 := h.2.2.1.1.2.1
    obtain ⟨f, hf, rfl⟩ := mp_in_ix (by omega) c1
    have cf : (nI f).toNatClampNeg = f := nI_clamp (by omega)
    rw [cf] at hp ⊢
    have hF := h.2.2.1.2.2.2.1 f hf
    have e7 := hF.2.2.2.2.2.2.1.1
    rw [e7] at hp
    have hl := h.2.2.1.melted_ hf hN
    by_cases c2 : σ 9 f 7 = 5
    · rw [if_pos c2] at hp
      rw [if_neg (fun z => z c2)]
      refine sim_ok (h.put hl (fun j h3 h6 => sp_melt_off _ _ _ _ _ (by omega) (by omega)) (fun j h3 h6 => by unfold mp_melt; rw [pc9, if_neg (by omega), pc9, if_neg (by omega), pc9, if_neg (by omega)]) (fun k i j y => sp_melt_off _ _ _ _ _ (by unfold dS at y; omega) (by unfold dS at y; omega)) (fun k i j y => by unfold dR at y; unfold mp_melt; rw [pc9, if_neg (by omega), pc9, if_neg (by omega), pc9, if_neg (by omega)])) (Nat.le_refl _) ?_ hp.2
      rw [← hp.1]
      exact hl.2.1.2.2.1.1.symm
    · rw [if_neg c2] at hp
      rw [if_pos c2]
      exact sim_err h 2 (by decide) hp.2
theorem mrL.trip (h : mrL P F R N σ ρ) (hf : f < F) {y z : Int32} (hy : I_ y 1 2) (hz : I_ z 1 60) : mrL P F R N (sp_trip σ f y z) (mp_tour ρ f y z) := by
  obtain ⟨k, hk, ek⟩ := I_of (b := 2) (I_mono hy (by decide) (Int.le_refl _)) (by decide)
  refine h.fig hf (fun k i jj y => by unfold sp_trip; rw [pc9, if_neg (by omega), pc9, if_neg (by omega), pc9, if_neg (by omega)]) (fun k i jj y => by unfold mp_tour; rw [pc9, if_neg (by omega), pc9, if_neg (by omega), pc9, if_neg (by omega)]) (fun hF => hF.tours (y := y) (z := z) (fun i => ?_) (fun i => ?_) ⟨k, by omega, ek⟩ hz)
  · unfold sp_trip
    rw [sgv, sgv, sgv]
  · unfold mp_tour
    rw [sgv, sgv, sgv]
    by_cases e : i = 9
    · rw [e, if_neg (by decide), if_pos rfl, if_pos rfl]
    · rw [if_neg e, if_neg e]
def cl_tour (F : Nat) (σ : hs_St) (x y z : Int32) : cl_X := if mp_in x 0 (nI F - 1) = 0 then (1, 0, σ) else if mp_in y 1 2 = 0 then (2, 0, σ) else if mp_in z 1 60 = 0 then (2, 0, σ) else if sp_isReady σ x.toNatClampNeg = 0 ∨ σ 4 (σ 9 x.toNatClampNeg 0).toNatClampNeg 5 = 0 then (3, 0, σ) else (0, sp_likeness (sp_trip σ x.toNatClampNeg y z) x.toNatClampNeg, sp_trip σ x.toNatClampNeg y z)
theorem sim_tour {x y z : Int32} (h : mr P F R N σ ρ) (hp : mp_tourP F ρ x y z b X) : sim R N (cl_tour F σ x y z) b X := by
  unfold mp_tourP at hp
  unfold cl_tour
  by_cases c1 : mp_in x 0 (nI F - 1) = 0
  · rw [if_pos c1] at hp ⊢
    exact sim_err h 1 (by decide) hp.2
  · rw [if_neg c1] at hp ⊢
    by_cases c2 : mp_in y 1 2 = 0
    · rw [if_pos c2] at hp ⊢
      exact sim_err h 2 (by decide) hp.2
    · rw [if_neg c2] at hp ⊢
      by_cases c3 : mp_in z 1 60 = 0
      · rw [if_pos c3] at hp ⊢
        exact sim_err h 2 (by decide) hp.2
      · rw [if_neg c3] at hp ⊢
        have h8 := h.2.2.1.1.2.1
        obtain ⟨f, hf, rfl⟩ := mp_in_ix (by omega) c1
        have cf : (nI f).toNatClampNeg = f := nI_clamp (by omega)
        rw [cf] at hp ⊢
        have hF := h.2.2.1.2.2.2.1 f hf
        obtain ⟨⟨h0, k0, a0, b0⟩, -⟩ := id hF
        have h10 := h.2.2.1.1.1
        have ch : (nI h0).toNatClampNeg = h0 := nI_clamp (by omega)
        obtain ⟨p3, p3b⟩ := (h.2.2.1.2.2.1 h0 k0).2.2.1
        rw [← hF.ready, b0, ch, p3] at hp
        rw [a0, ch]
        by_cases c4 : sp_isReady σ f = 0 ∨ σ 4 h0 5 = 0
        · rw [if_pos c4] at hp ⊢
          exact sim_err h 3 (by decide) hp.2
        · rw [if_neg c4] at hp ⊢
          have hl := h.2.2.1.trip hf (mp_in_I c2) (mp_in_I c3)
          refine sim_ok ((h.put hl (fun j h3 h6 => by unfold sp_trip; rw [pc9, if_neg (by omega), pc9, if_neg (by omega), pc9, if_neg (by omega)]) (fun j h3 h6 => by unfold mp_tour; rw [pc9, if_neg (by omega), pc9, if_neg (by omega), pc9, if_neg (by omega)]) (fun k i j y => by unfold dS at y; unfold sp_trip; rw [pc9, if_neg (by omega), pc9, if_neg (by omega), pc9, if_neg (by omega)]) (fun k i j y => by unfold dR at y; unfold mp_tour; rw [pc9, if_neg (by omega), pc9, if_neg (by omega), pc9, if_neg (by omega)])).up (Nat.le_succ N)) (Nat.le_refl _) ?_ hp.2
          rw [← hp.1]
          exact ((hl.2.2.2.1 f hf).like hl.1.1 hl.2.2.1).1
theorem mrL.swaps {g : Nat} (h : mrL P F R N σ ρ) (hf : f < F) (hg : g < F) : mrL P F R N (sp_swap σ f g) (mp_swap ρ f g) := by
  have h10 := h.1.1
  obtain ⟨⟨u, hu, a0, b0⟩, -, -, -, ⟨e5, i5⟩, -⟩ := h.2.2.2.1 f hf
  obtain ⟨⟨v, hv, c0, d0⟩, -, -, -, ⟨g5, j5⟩, -⟩ := h.2.2.2.1 g hg
  have cu : (nI u).toNatClampNeg = u := nI_clamp (by omega)
  have cv : (nI v).toNatClampNeg = v := nI_clamp (by omega)
  unfold sp_swap mp_swap
  rw [a0, c0, b0, d0, e5, g5, cu, cv]
  have h1 : mrL P F R N (hs_sg (hs_sg σ 9 f 0 (nI v)) 9 f 5 (σ 9 g 5)) (hs_sg (hs_sg ρ 14 f 0 (nI v)) 14 f 5 (σ 9 g 5)) := h.fig hf (fun k i jj y => by rw [pc9, if_neg (by omega), pc9, if_neg (by omega)]) (fun k i jj y => by rw [pc9, if_neg (by omega), pc9, if_neg (by omega)]) (fun hF => hF.heads_ (fun i => by rw [sgv, sgv]) (fun i => by rw [sgv, sgv]) ⟨v, hv, rfl⟩ j5)
  exact h1.fig hg (fun k i jj y => by rw [pc9, if_neg (by omega), pc9, if_neg (by omega)]) (fun k i jj y => by rw [pc9, if_neg (by omega), pc9, if_neg (by omega)]) (fun hF => hF.heads_ (fun i => by rw [sgv, sgv]) (fun i => by rw [sgv, sgv]) ⟨u, hu, rfl⟩ i5)
def cl_swap (F : Nat) (σ : hs_St) (x y : Int32) : cl_X := if mp_in x 0 (nI F - 1) = 0 then (1, 0, σ) else if mp_in y 0 (nI F - 1) = 0 then (1, 0, σ) else if x = y then (2, 0, σ) else if sp_isReady σ x.toNatClampNeg = 0 ∨ sp_isReady σ y.toNatClampNeg = 0 then (3, 0, σ) else (0, sp_likeness (sp_swap σ x.toNatClampNeg y.toNatClampNeg) x.toNatClampNeg, sp_swap σ x.toNatClampNeg y.toNatClampNeg)
theorem sim_swap {x y : Int32} (h : mr P F R N σ ρ) (hp : mp_swapP F ρ x y b X) : sim R N (cl_swap F σ x y) b X := by
  unfold mp_swapP at hp
  unfold cl_swap
  by_cases c1 : mp_in x 0 (nI F - 1) = 0
  · rw [if_pos c1] at hp ⊢
    exact sim_err h 1 (by decide) hp.2
  · rw [if_neg c1] at hp ⊢
    by_cases c2 : mp_in y 0 (nI F - 1) = 0
    · rw [if_pos c2] at hp ⊢
      exact sim_err h 1 (by decide) hp.2
    · rw [if_neg c2] at hp ⊢
      by_cases c3 : x = y
      · rw [if_pos c3] at hp ⊢
        exact sim_err h 2 (by decide) hp.2
      · rw [if_neg c3] at hp ⊢
        have h8 := h.2.2.1.1.2.1
        obtain ⟨f, hf, rfl⟩ := mp_in_ix (by omega) c1
        have cf : (nI f).toNatClampNeg = f := nI_clamp (by omega)
        rw [cf] at hp ⊢
        obtain ⟨g, hg, rfl⟩ := mp_in_ix (by omega) c2
        have cg : (nI g).toNatClampNeg = g := nI_clamp (by omega)
        rw [cg] at hp ⊢
        rw [← (h.2.2.1.2.2.2.1 f hf).ready, ← (h.2.2.1.2.2.2.1 g hg).ready] at hp
        by_cases c4 : sp_isReady σ f = 0 ∨ sp_isReady σ g = 0
        · rw [if_pos c4] at hp ⊢
          exact sim_err h 3 (by decide) hp.2
        · rw [if_neg c4] at hp ⊢
          have hl := h.2.2.1.swaps hf hg
          refine sim_ok ((h.put hl (fun j h3 h6 => by unfold sp_swap; rw [pc9, if_neg (by omega), pc9, if_neg (by omega), pc9, if_neg (by omega), pc9, if_neg (by omega)]) (fun j h3 h6 => by unfold mp_swap; rw [pc9, if_neg (by omega), pc9, if_neg (by omega), pc9, if_neg (by omega), pc9, if_neg (by omega)]) (fun k i j y => by unfold dS at y; unfold sp_swap; rw [pc9, if_neg (by omega), pc9, if_neg (by omega), pc9, if_neg (by omega), pc9, if_neg (by omega)]) (fun k i j y => by unfold dR at y; unfold mp_swap; rw [pc9, if_neg (by omega), pc9, if_neg (by omega), pc9, if_neg (by omega), pc9, if_neg (by omega)])).up (Nat.le_succ N)) (Nat.le_refl _) ?_ hp.2
          rw [← hp.1]
          exact ((hl.2.2.2.1 f hf).like hl.1.1 hl.2.2.1).1
def cl_show (F R : Nat) (σ : hs_St) (x y : Int32) : cl_X := if mp_in x 0 (nI F - 1) = 0 then (1, 0, σ) else if mp_in y 0 (nI R - 1) = 0 then (1, 0, σ) else if sp_isReady σ x.toNatClampNeg = 0 ∨ σ 4 (σ 9 x.toNatClampNeg 0).toNatClampNeg 5 = 0 ∨ sp_likeness σ x.toNatClampNeg < 30 ∨ σ 10 y.toNatClampNeg 1 ≤ sp_figIn σ y y F ∨ ¬ sp_shownFrom σ (σ 9 x.toNatClampNeg 0).toNatClampNeg F 0 = -1 then (2, 0, σ) else (0, sp_draw (hs_sg σ 9 x.toNatClampNeg 7 y) x.toNatClampNeg, hs_sg σ 9 x.toNatClampNeg 7 y)
theorem sim_show {x y : Int32} (h : mr P F R N σ ρ) (hp : mp_showP F R ρ x y b X) : sim R N (cl_show F R σ x y) b X := by
  unfold mp_showP at hp
  unfold cl_show
  by_cases c1 : mp_in x 0 (nI F - 1) = 0
  · rw [if_pos c1] at hp ⊢
    exact sim_err h 1 (by decide) hp.2
  · rw [if_neg c1] at hp ⊢
    by_cases c2 : mp_in y 0 (nI R - 1) = 0
    · rw [if_pos c2] at hp ⊢
      exact sim_err h 1 (by decide) hp.2
    · rw [if_neg c2] at hp ⊢
      have h8 := h.2.2.1.1.2.1
      obtain ⟨f, hf, rfl⟩ := mp_in_ix (by omega) c1
      have cf : (nI f).toNatClampNeg = f := nI_clamp (by omega)
      rw [cf] at hp ⊢
      have h5 := h.2.2.1.1.2.2
      obtain ⟨r, hr, rfl⟩ := mp_in_ix (by omega) c2
      have cr : (nI r).toNatClampNeg = r := nI_clamp (by omega)
      rw [cr] at hp ⊢
      have hF := h.2.2.1.2.2.2.1 f hf
      obtain ⟨⟨h0, k0, a0, b0⟩, -⟩ := id hF
      have h10 := h.2.2.1.1.1
      have ch : (nI h0).toNatClampNeg = h0 := nI_clamp (by omega)
      obtain ⟨p3, p3b⟩ := (h.2.2.1.2.2.1 h0 k0).2.2.1
      obtain ⟨l1, l2, l3⟩ := h.2.2.1.2.2.2.2 r hr
      have ec : (¬ σ 4 h0 5 = 1) ↔ (σ 4 h0 5 = 0) := ⟨fun z => p3b.elim id (fun y => absurd y z), fun z => by rw [z]; decide⟩
      rw [← hF.ready, b0, ch, p3, ← (hF.like h.2.2.1.1.1 h.2.2.1.2.2.1).1, l2, ← h.2.2.1.many (nI r) F (Nat.le_refl _), ← h.2.2.1.shownOf h0 (by omega) F 0 (by omega)] at hp
      rw [a0, ch]
      have ci : (sp_isReady σ f = 0 ∨ σ 4 h0 5 = 0 ∨ sp_likeness σ f < 30 ∨ σ 10 r 1 ≤ sp_figIn σ (nI r) (nI r) F ∨ ¬ sp_shownFrom σ h0 F 0 = -1) ↔ (sp_isReady σ f = 0 ∨ ¬ σ 4 h0 5 = 1 ∨ sp_likeness σ f < 30 ∨ σ 10 r 1 ≤ sp_figIn σ (nI r) (nI r) F ∨ ¬ sp_shownFrom σ h0 F 0 = -1) := or_congr_right (or_congr_left ec.symm)
      by_cases c4 : sp_isReady σ f = 0 ∨ σ 4 h0 5 = 0 ∨ sp_likeness σ f < 30 ∨ σ 10 r 1 ≤ sp_figIn σ (nI r) (nI r) F ∨ ¬ sp_shownFrom σ h0 F 0 = -1
      · rw [if_pos c4]
        rw [if_pos (ci.mp c4)] at hp
        exact sim_err h 2 (by decide) hp.2
      · rw [if_neg c4]
        rw [if_neg (fun z => c4 (ci.mpr z))] at hp
        have e6 : σ 9 f 2 = 6 := by
          have n1 : ¬ sp_isReady σ f = 0 := fun z => c4 (Or.inl z)
          unfold sp_isReady at n1
          by_cases z : σ 9 f 2 = 6
          · exact z
          · rw [if_neg z] at n1
            exact absurd rfl n1
        have hl := h.2.2.1.place hf (Or.inl ⟨r, hr, rfl, e6⟩)
        refine sim_ok ((h.put hl (fun j h3 h6 => by rw [pc9, if_neg (by omega)]) (fun j h3 h6 => by rw [pc9, if_neg (by omega)]) (fun k i j y => by rw [pc9, if_neg (by unfold dS at y; omega)]) (fun k i j y => by rw [pc9, if_neg (by unfold dR at y; omega)])).up (Nat.le_succ N)) (Nat.le_refl _) ?_ hp.2
        rw [← hp.1]
        exact ((hl.2.2.2.1 f hf).draw hl.1.1 hl.1.2.2 hl.2.2.1).1
theorem rF.upP {a c : Nat → Int32} {P' R' : Nat} (h : rF P R a c) (hP : P ≤ P') (hR : R ≤ R') : rF P' R' a c := by
  obtain ⟨⟨h0, k0, x0⟩, ⟨h1, k1, x1⟩, hs, eh, ef, ew, ⟨ea, hp⟩, el⟩ := h
  refine ⟨⟨h0, by omega, x0⟩, ⟨h1, by omega, x1⟩, hs, eh, ef, ew, ⟨ea, ?_⟩, el⟩
  rcases hp with ⟨r, hr, z⟩ | z
  · exact Or.inl ⟨r, by omega, z⟩
  · exact Or.inr z
theorem nI_s (n : Nat) : nI n + 1 = nI (n + 1) := nI_1 n
theorem mr.newR (h : mr P F R N σ ρ) (hR : R < 5) {x y : Int32} (hx : I_ x 0 9) : mr P F (R + 1) N (sp_newR σ R x y) (mp_newR ρ R x y) := by
  obtain ⟨⟨c1, c2, c3⟩, ⟨d1, d2, d3⟩, ⟨hl1, hl2, hl3, hl4, hl5⟩, hn⟩ := h
  have s_ : ∀ k i j, ¬ (k = 0 ∧ j = 5) → ¬ (k = 10 ∧ i = R) → sp_newR σ R x y k i j = σ k i j := fun k i j y1 y2 => by
    unfold sp_newR
    rw [pc9, if_neg (by omega), pc9, if_neg (by omega), pc9, if_neg (by omega)]
  have g_ : ∀ k i j, ¬ (k = 0 ∧ j = 8) → ¬ ((k = 5 ∨ k = 6) ∧ j = R) → mp_newR ρ R x y k i j = ρ k i j := fun k i j y1 y2 => by
    unfold mp_newR
    rw [pc9, if_neg (by omega), pc9, if_neg (by omega), pc9, if_neg (by omega)]
  have n0 : sp_newR σ R x y 10 R 0 = x := by
    unfold sp_newR
    rw [pc9, if_neg (by omega), sgv, if_pos rfl]
  have n1 : sp_newR σ R x y 10 R 1 = y := by
    unfold sp_newR
    rw [sgv, if_pos rfl]
  have m0 : mp_newR ρ R x y 5 0 R = x := by
    unfold mp_newR
    rw [pc9, if_neg (by omega), pc9, if_neg (by omega), sgv, if_pos rfl]
  have m1 : mp_newR ρ R x y 6 0 R = y := by
    unfold mp_newR
    rw [pc9, if_neg (by omega), sgv, if_pos rfl]
  refine ⟨⟨?_, ?_, ?_⟩, ⟨?_, ?_, ?_⟩, ⟨⟨hl1.1, hl1.2.1, by omega⟩, hl2.same (fun j hj => s_ _ _ _ (by omega) (by omega)) (fun j hj => g_ _ _ _ (by omega) (by omega)), fun q hq => (hl3 q hq).same (fun j => s_ _ _ _ (by omega) (by omega)) (fun j => s_ _ _ _ (by omega) (by omega)) (fun j => s_ _ _ _ (by omega) (by omega)) (fun j => s_ _ _ _ (by omega) (by omega)) (fun j => s_ _ _ _ (by omega) (by omega)) (fun j => g_ _ _ _ (by omega) (by omega)) (fun j => g_ _ _ _ (by omega) (by omega)) (fun j => g_ _ _ _ (by omega) (by omega)), fun f hf => ((hl4 f hf).upP (Nat.le_refl _) (Nat.le_succ R)).same (fun j => s_ _ _ _ (by omega) (by omega)) (fun j => g_ _ _ _ (by omega) (by omega)), fun r hr => ?_⟩, hn.same (Nat.le_refl _) (Nat.le_refl _) (fun k i j z => s_ _ _ _ (by unfold dS at z; omega) (by unfold dS at z; omega)) (fun k i j z => g_ _ _ _ (by unfold dR at z; omega) (by unfold dR at z; omega))⟩
  · rw [s_ _ _ _ (by omega) (by omega)]; exact c1
  · rw [s_ _ _ _ (by omega) (by omega)]; exact c2
  · unfold sp_newR
    rw [pc9, if_neg (by omega), pc9, if_neg (by omega), sgv, if_pos rfl]
    exact nI_s R
  · rw [g_ _ _ _ (by omega) (by omega)]; exact d1
  · rw [g_ _ _ _ (by omega) (by omega)]; exact d2
  · unfold mp_newR
    rw [sgv, if_pos rfl]
    exact nI_s R
  · by_cases e : r = R
    · subst e
      unfold rR
      rw [n0, n1, m0, m1]
      exact ⟨rfl, rfl, hx⟩
    · exact (hl5 r (by omega)).same (s_ _ _ _ (by omega) (by omega)) (s_ _ _ _ (by omega) (by omega)) (g_ _ _ _ (by omega) (by omega)) (g_ _ _ _ (by omega) (by omega))
def cl_room (R : Nat) (σ : hs_St) (x y : Int32) : cl_X := if mp_in x 0 9 = 0 then (1, 0, σ) else if mp_in y 1 4 = 0 then (1, 0, σ) else if nI R = 5 then (2, 0, σ) else (0, nI R, sp_newR σ R x y)
theorem sim_room {x y : Int32} (h : mr P F R N σ ρ) (hp : if mp_in x 0 9 = 0 then (0 : Int32) = b ∧ (1 : Int32) = X.1 ∧ ρ = X.2 else if mp_in y 1 4 = 0 then (0 : Int32) = b ∧ (1 : Int32) = X.1 ∧ ρ = X.2 else if nI R = 5 then (0 : Int32) = b ∧ (2 : Int32) = X.1 ∧ ρ = X.2 else nI R = b ∧ (0 : Int32) = X.1 ∧ mp_newR ρ R x y = X.2) : sim R N (cl_room R σ x y) b X := by
  unfold cl_room
  by_cases c1 : mp_in x 0 9 = 0
  · rw [if_pos c1] at hp ⊢
    exact sim_err h 1 (by decide) hp.2
  · rw [if_neg c1] at hp ⊢
    by_cases c2 : mp_in y 1 4 = 0
    · rw [if_pos c2] at hp ⊢
      exact sim_err h 1 (by decide) hp.2
    · rw [if_neg c2] at hp ⊢
      by_cases c3 : nI R = 5
      · rw [if_pos c3] at hp ⊢
        exact sim_err h 2 (by decide) hp.2
      · rw [if_neg c3] at hp ⊢
        have h5 := h.2.2.1.1.2.2
        have hR : R < 5 := by
          rcases Nat.lt_or_ge R 5 with z | z
          · exact z
          · exact absurd (by rw [show R = 5 by omega]; rfl) c3
        exact sim_ok ((h.newR hR (mp_in_I c1)).up (Nat.le_succ N)) (Nat.le_succ R) hp.1 hp.2
theorem mr.newF (h : mr P F R N σ ρ) (hF : F < 8) (hq : q < P) : mr P (F + 1) R N (sp_newF σ F q) (mp_newF ρ F (nI q)) := by
  obtain ⟨⟨c1, c2, c3⟩, ⟨d1, d2, d3⟩, ⟨hl1, hl2, hl3, hl4, hl5⟩, hn⟩ := h
  have s_ : ∀ k i j, ¬ (k = 0 ∧ j = 4) → ¬ (k = 9 ∧ i = F ∧ (j = 0 ∨ j = 1)) → sp_newF σ F q k i j = σ k i j := fun k i j y1 y2 => by
    unfold sp_newF
    rw [pc9, if_neg (by omega), pc9, if_neg (by omega), pc9, if_neg (by omega)]
  have g_ : ∀ k i j, ¬ (k = 0 ∧ j = 7) → ¬ (k = 14 ∧ i = F) → mp_newF ρ F (nI q) k i j = ρ k i j := fun k i j y1 y2 => by
    unfold mp_newF hs_row
    rw [pc9, if_neg (by omega), if_neg (by omega)]
  have n0 : sp_newF σ F q 9 F 0 = nI q := by
    unfold sp_newF
    rw [pc9, if_neg (by omega), sgv, if_pos rfl]
  have n1 : sp_newF σ F q 9 F 1 = nI q := by
    unfold sp_newF
    rw [sgv, if_pos rfl]
  have m_ : ∀ j, j < 11 → mp_newF ρ F (nI q) 14 F j = mp_newFr (nI q) j := fun j hj => by
    unfold mp_newF hs_row
    rw [pc9, if_neg (by omega), if_pos ⟨rfl, rfl⟩]
    unfold va_cpy
    rw [if_pos (by omega), Nat.zero_add, Nat.sub_zero]
  obtain ⟨z0, z2, z3, z4, z5, z6, z7, z8, z9, z10⟩ := hn.2 F (Nat.le_refl _) hF
  refine ⟨⟨?_, ?_, ?_⟩, ⟨?_, ?_, ?_⟩, ⟨⟨hl1.1, by omega, hl1.2.2⟩, hl2.same (fun j hj => s_ _ _ _ (by omega) (by omega)) (fun j hj => g_ _ _ _ (by omega) (by omega)), fun q hq => (hl3 q hq).same (fun j => s_ _ _ _ (by omega) (by omega)) (fun j => s_ _ _ _ (by omega) (by omega)) (fun j => s_ _ _ _ (by omega) (by omega)) (fun j => s_ _ _ _ (by omega) (by omega)) (fun j => s_ _ _ _ (by omega) (by omega)) (fun j => g_ _ _ _ (by omega) (by omega)) (fun j => g_ _ _ _ (by omega) (by omega)) (fun j => g_ _ _ _ (by omega) (by omega)), fun f hf => ?_, fun r hr => (hl5 r hr).same (s_ _ _ _ (by omega) (by omega)) (s_ _ _ _ (by omega) (by omega)) (g_ _ _ _ (by omega) (by omega)) (g_ _ _ _ (by omega) (by omega))⟩, hn.same (Nat.le_refl _) (Nat.le_succ F) (fun k i j z => s_ _ _ _ (by unfold dS at z; omega) (by unfold dS at z; omega)) (fun k i j z => g_ _ _ _ (by unfold dR at z; omega) (by unfold dR at z; omega))⟩
  · rw [s_ _ _ _ (by omega) (by omega)]; exact c1
  · unfold sp_newF
    rw [pc9, if_neg (by omega), pc9, if_neg (by omega), sgv, if_pos rfl]
    exact nI_s F
  · rw [s_ _ _ _ (by omega) (by omega)]; exact c3
  · rw [g_ _ _ _ (by omega) (by omega)]; exact d1
  · unfold mp_newF
    rw [sgv, if_pos rfl]
    exact nI_s F
  · rw [g_ _ _ _ (by omega) (by omega)]; exact d3
  · by_cases e : f = F
    · subst e
      unfold rF
      rw [n0, n1, s_ 9 f 2 (by omega) (by omega), s_ 9 f 3 (by omega) (by omega), s_ 9 f 4 (by omega) (by omega), s_ 9 f 5 (by omega) (by omega), s_ 9 f 6 (by omega) (by omega), s_ 9 f 7 (by omega) (by omega), s_ 9 f 8 (by omega) (by omega), s_ 9 f 9 (by omega) (by omega), s_ 9 f 10 (by omega) (by omega), m_ 0 (by decide), m_ 1 (by decide), m_ 2 (by decide), m_ 3 (by decide), m_ 4 (by decide), m_ 5 (by decide), m_ 6 (by decide), m_ 7 (by decide), m_ 8 (by decide), m_ 9 (by decide), m_ 10 (by decide), z2, z3, z4, z5, z6, z7, z8, z9, z10]
      exact ⟨⟨q, hq, rfl, rfl⟩, ⟨q, hq, rfl, rfl⟩, ⟨0, by decide, rfl, rfl, fun _ => ⟨⟨by decide, by decide⟩, rfl⟩, fun z => absurd z (by decide)⟩, ⟨rfl, by decide, by decide⟩, ⟨rfl, by decide, by decide⟩, ⟨rfl, by decide, by decide⟩, ⟨rfl, Or.inr (Or.inl rfl)⟩, ⟨rfl, 0, by decide, rfl⟩, rfl, rfl⟩
    · exact (hl4 f (by omega)).same (fun j => s_ _ _ _ (by omega) (by omega)) (fun j => g_ _ _ _ (by omega) (by omega))
def cl_figure (P F : Nat) (σ : hs_St) (x : Int32) : cl_X := if mp_in x 0 (nI P - 1) = 0 then (1, 0, σ) else if nI F = 8 then (2, 0, σ) else (0, nI F, sp_newF σ F x.toNatClampNeg)
theorem sim_figure {x : Int32} (h : mr P F R N σ ρ) (hp : mp_figureP P F ρ x b X) : sim R N (cl_figure P F σ x) b X := by
  unfold mp_figureP at hp
  unfold cl_figure
  by_cases c1 : mp_in x 0 (nI P - 1) = 0
  · rw [if_pos c1] at hp ⊢
    exact sim_err h 1 (by decide) hp.2
  · rw [if_neg c1] at hp ⊢
    by_cases c3 : nI F = 8
    · rw [if_pos c3] at hp ⊢
      exact sim_err h 2 (by decide) hp.2
    · rw [if_neg c3] at hp ⊢
      have h8 := h.2.2.1.1.2.1
      have hF : F < 8 := by
        rcases Nat.lt_or_ge F 8 with z | z
        · exact z
        · exact absurd (by rw [show F = 8 by omega]; rfl) c3
      have h10 := h.2.2.1.1.1
      obtain ⟨q, hq, rfl⟩ := mp_in_ix (by omega) c1
      have cq : (nI q).toNatClampNeg = q := nI_clamp (by omega)
      rw [cq]
      exact sim_ok ((h.newF hF hq).up (Nat.le_succ N)) (Nat.le_refl R) hp.1 hp.2
theorem mp_hi_at (ρ : hs_St) (q k i j : Nat) : ∀ n, mp_hi ρ q n k i j = if k = 13 ∧ i = q ∧ j < n then 99 else ρ k i j := by
  intro n
  induction n with
  | zero =>
    rw [mp_hi, if_neg (by omega)]
  | succ n ih =>
    rw [mp_hi, pc9, ih]
    by_cases a : k = 13 ∧ i = q ∧ j = n
    · rw [if_pos a, if_pos (by omega)]
    · rw [if_neg a]
      by_cases c : k = 13 ∧ i = q ∧ j < n
      · rw [if_pos c, if_pos (by omega)]
      · rw [if_neg c, if_neg (by omega)]
theorem mr.newP (h : mr P F R N σ ρ) (hP : P < 10) {x y z : Int32} (hx : I_ x 0 999) (hy : I_ y 0 999) (hz : I_ z 0 999) : mr (P + 1) F R N (sp_newP σ P x y z) (mp_newP ρ P x y z) := by
  obtain ⟨⟨c1, c2, c3⟩, ⟨d1, d2, d3⟩, ⟨hl1, hl2, hl3, hl4, hl5⟩, hn⟩ := h
  have s_ : ∀ k i j, ¬ (k = 0 ∧ j = 3) → ¬ (k = 5 ∧ i = P) → sp_newP σ P x y z k i j = σ k i j := fun k i j y1 y2 => by
    unfold sp_newP
    rw [pc9, if_neg (by omega), pc9, if_neg (by omega), pc9, if_neg (by omega), pc9, if_neg (by omega)]
  have g_ : ∀ k i j, ¬ (k = 0 ∧ j = 6) → ¬ (k = 11 ∧ i = P ∧ j < 3) → ¬ (k = 13 ∧ i = P) → mp_newP ρ P x y z k i j = ρ k i j := fun k i j y1 y2 y3 => by
    unfold mp_newP
    rw [pc9, if_neg (by omega), mp_hi_at, if_neg (by omega), pc9, if_neg (by omega), pc9, if_neg (by omega), pc9, if_neg (by omega)]
  have n_ : ∀ j, sp_newP σ P x y z 5 P j = if j = 2 then z else if j = 1 then y else if j = 0 then x else σ 5 P j := fun j => by
    unfold sp_newP
    rw [sgv, sgv, sgv, show hs_sg σ 0 0 3 (nI P + 1) 5 P j = σ 5 P j by rw [pc9, if_neg (by omega)]]
  have m_ : ∀ j, mp_newP ρ P x y z 11 P j = if j = 2 then z else if j = 1 then y else if j = 0 then x else ρ 11 P j := fun j => by
    unfold mp_newP
    rw [pc9, if_neg (by omega), mp_hi_at, if_neg (by omega), sgv, sgv, sgv]
  have h_ : ∀ j, j < 6 → mp_newP ρ P x y z 13 P j = 99 := fun j hj => by
    unfold mp_newP
    rw [pc9, if_neg (by omega), mp_hi_at, if_pos ⟨rfl, rfl, hj⟩]
  obtain ⟨f1, f2, f3, f4, f5⟩ := hn.1 P (Nat.le_refl _) hP
  refine ⟨⟨?_, ?_, ?_⟩, ⟨?_, ?_, ?_⟩, ⟨⟨by omega, hl1.2.1, hl1.2.2⟩, hl2.same (fun j hj => s_ _ _ _ (by omega) (by omega)) (fun j hj => g_ _ _ _ (by omega) (by omega) (by omega)), fun q hq => ?_, fun f hf => ((hl4 f hf).upP (Nat.le_succ P) (Nat.le_refl _)).same (fun j => s_ _ _ _ (by omega) (by omega)) (fun j => g_ _ _ _ (by omega) (by omega) (by omega)), fun r hr => (hl5 r hr).same (s_ _ _ _ (by omega) (by omega)) (s_ _ _ _ (by omega) (by omega)) (g_ _ _ _ (by omega) (by omega) (by omega)) (g_ _ _ _ (by omega) (by omega) (by omega))⟩, hn.same (Nat.le_succ P) (Nat.le_refl _) (fun k i j z => s_ _ _ _ (by unfold dS at z; omega) (by unfold dS at z; omega)) (fun k i j z => g_ _ _ _ (by unfold dR at z; omega) (by unfold dR at z; omega) (by unfold dR at z; omega))⟩
  · unfold sp_newP
    rw [pc9, if_neg (by omega), pc9, if_neg (by omega), pc9, if_neg (by omega), sgv, if_pos rfl]
    exact nI_s P
  · rw [s_ _ _ _ (by omega) (by omega)]; exact c2
  · rw [s_ _ _ _ (by omega) (by omega)]; exact c3
  · unfold mp_newP
    rw [sgv, if_pos rfl]
    exact nI_s P
  · rw [g_ _ _ _ (by omega) (by omega) (by omega)]; exact d2
  · rw [g_ _ _ _ (by omega) (by omega) (by omega)]; exact d3
  · by_cases e : q = P
    · subst e
      have s5 : ∀ k j, ¬ k = 5 → ¬ k = 0 → sp_newP σ q x y z k q j = σ k q j := fun k j y1 y2 => s_ _ _ _ (by omega) (by omega)
      refine ⟨fun j hj => ?_, fun j hj => ?_, ?_, ?_, ?_, fun j hj => ?_⟩
      · rw [n_, m_]
        by_cases e2 : j = 2
        · rw [if_pos e2, if_pos e2]; exact ⟨rfl, hz⟩
        · by_cases e1 : j = 1
          · rw [if_neg e2, if_neg e2, if_pos e1, if_pos e1]; exact ⟨rfl, hy⟩
          · rw [if_neg e2, if_neg e2, if_neg e1, if_neg e1, if_pos (by omega), if_pos (by omega)]; exact ⟨rfl, hx⟩
      · rw [m_, if_neg (by omega), if_neg (by omega), if_neg (by omega), s5 _ _ (by decide) (by decide), f4 _ (by omega), (f1 j hj).2]
        exact ⟨rfl, by decide, by decide⟩
      · rw [m_, if_neg (by omega), if_neg (by omega), if_neg (by omega), s5 _ _ (by decide) (by decide), f4 _ (by omega), f3.1]
        exact ⟨rfl, Or.inl rfl⟩
      · rw [m_, if_neg (by omega), if_neg (by omega), if_neg (by omega), s5 _ _ (by decide) (by decide), f4 _ (by omega), f3.2.1]
      · rw [m_, if_neg (by omega), if_neg (by omega), if_neg (by omega), s5 _ _ (by decide) (by decide), f4 _ (by omega), f3.2.2]
      · rw [h_ j hj, g_ 12 _ _ (by omega) (by omega) (by omega), s5 _ _ (by decide) (by decide), s5 _ _ (by decide) (by decide), f5 _ hj, (f2 j hj).1, (f2 j hj).2]
        exact ⟨rfl, rfl, ⟨by decide, by decide⟩, ⟨by decide, by decide⟩, by decide⟩
    · exact (hl3 q (by omega)).same (fun j => s_ _ _ _ (by omega) (by omega)) (fun j => s_ _ _ _ (by omega) (by omega)) (fun j => s_ _ _ _ (by omega) (by omega)) (fun j => s_ _ _ _ (by omega) (by omega)) (fun j => s_ _ _ _ (by omega) (by omega)) (fun j => g_ _ _ _ (by omega) (by omega) (by omega)) (fun j => g_ _ _ _ (by omega) (by omega) (by omega)) (fun j => g_ _ _ _ (by omega) (by omega) (by omega))
def cl_person (P : Nat) (σ : hs_St) (x y z : Int32) : cl_X := if mp_in x 0 999 = 0 then (1, 0, σ) else if mp_in y 0 999 = 0 then (1, 0, σ) else if mp_in z 0 999 = 0 then (1, 0, σ) else if nI P = 10 then (2, 0, σ) else (0, nI P, sp_newP σ P x y z)
theorem sim_person {x y z : Int32} (h : mr P F R N σ ρ) (hp : mp_personP P ρ x y z b X) : sim R N (cl_person P σ x y z) b X := by
  unfold mp_personP at hp
  unfold cl_person
  by_cases c1 : mp_in x 0 999 = 0
  · rw [if_pos c1] at hp ⊢
    exact sim_err h 1 (by decide) hp.2
  · rw [if_neg c1] at hp ⊢
    by_cases c2 : mp_in y 0 999 = 0
    · rw [if_pos c2] at hp ⊢
      exact sim_err h 1 (by decide) hp.2
    · rw [if_neg c2] at hp ⊢
      by_cases c3 : mp_in z 0 999 = 0
      · rw [if_pos c3] at hp ⊢
        exact sim_err h 1 (by decide) hp.2
      · rw [if_neg c3] at hp ⊢
        by_cases c4 : nI P = 10
        · rw [if_pos c4] at hp ⊢
          exact sim_err h 2 (by decide) hp.2
        · rw [if_neg c4] at hp ⊢
          have h5 := h.2.2.1.1.1
          have hP : P < 10 := by
            rcases Nat.lt_or_ge P 10 with z | z
            · exact z
            · exact absurd (by rw [show P = 10 by omega]; rfl) c4
          exact sim_ok ((h.newP hP (mp_in_I c1) (mp_in_I c2) (mp_in_I c3)).up (Nat.le_succ N)) (Nat.le_refl R) hp.1 hp.2
def cl_pass (P F : Nat) (σ : hs_St) (n x z : Int32) : cl_X := if mp_in n 1 40 = 0 then (1, 0, σ) else if mp_in x 0 2000 = 0 then (1, 0, σ) else if mp_in z 0 40 = 0 then (1, 0, σ) else (0, (sp_pass σ P F x z n.toNatClampNeg).1, (sp_pass σ P F x z n.toNatClampNeg).2)
theorem sim_pass {n x z : Int32} (h : mr P F R N σ ρ) (hp : mp_passP P F ρ n x z b X) : sim R N (cl_pass P F σ n x z) b X := by
  unfold mp_passP at hp
  unfold cl_pass
  by_cases c1 : mp_in n 1 40 = 0
  · rw [if_pos c1] at hp ⊢
    exact sim_err h 1 (by decide) hp.2
  · rw [if_neg c1] at hp ⊢
    by_cases c2 : mp_in x 0 2000 = 0
    · rw [if_pos c2] at hp ⊢
      exact sim_err h 1 (by decide) hp.2
    · rw [if_neg c2] at hp ⊢
      by_cases c3 : mp_in z 0 40 = 0
      · rw [if_pos c3] at hp ⊢
        exact sim_err h 1 (by decide) hp.2
      · rw [if_neg c3] at hp ⊢
        obtain ⟨i1, i2⟩ := h.pass (mp_in_I c2) (mp_in_I c3) n.toNatClampNeg
        exact sim_ok (i2.up (Nat.le_succ N)) (Nat.le_refl R) (i1.trans hp.1) hp.2
def cl_ofPerson (P F : Nat) (σ : hs_St) (x y : Int32) : cl_X := if mp_in x 0 (nI P - 1) = 0 then (1, 0, σ) else if mp_in y 0 10 = 0 then (2, 0, σ) else (0, sp_ofP σ F x.toNatClampNeg y.toNatClampNeg, σ)
theorem sim_ofPerson {x y : Int32} (h : mr P F R N σ ρ) (hp : mp_ofPersonP P F ρ x y b X) : sim R N (cl_ofPerson P F σ x y) b X := by
  unfold mp_ofPersonP at hp
  unfold cl_ofPerson
  by_cases c1 : mp_in x 0 (nI P - 1) = 0
  · rw [if_pos c1] at hp ⊢
    exact sim_err h 1 (by decide) hp.2
  · rw [if_neg c1] at hp ⊢
    by_cases c2 : mp_in y 0 10 = 0
    · rw [if_pos c2] at hp ⊢
      exact sim_err h 2 (by decide) hp.2
    · rw [if_neg c2] at hp ⊢
      have h10 := h.2.2.1.1.1
      obtain ⟨q, hq, rfl⟩ := mp_in_ix (by omega) c1
      have cq : (nI q).toNatClampNeg = q := nI_clamp (by omega)
      rw [cq] at hp ⊢
      obtain ⟨j, hj, rfl⟩ := mp_in_le (n := 10) (by decide) c2
      have cj : (nI j).toNatClampNeg = j := nI_clamp (by omega)
      rw [cj] at hp ⊢
      exact sim_ok (h.up (Nat.le_succ N)) (Nat.le_refl R) ((h.2.2.1.pnow hq hj).trans hp.1) hp.2
def cl_ofFigure (F : Nat) (σ : hs_St) (x y : Int32) : cl_X := if mp_in x 0 (nI F - 1) = 0 then (1, 0, σ) else if mp_in y 0 11 = 0 then (2, 0, σ) else (0, sp_ofF σ x.toNatClampNeg y.toNatClampNeg, σ)
theorem sim_ofFigure {x y : Int32} (h : mr P F R N σ ρ) (hp : mp_ofFigureP F ρ x y b X) : sim R N (cl_ofFigure F σ x y) b X := by
  unfold mp_ofFigureP at hp
  unfold cl_ofFigure
  by_cases c1 : mp_in x 0 (nI F - 1) = 0
  · rw [if_pos c1] at hp ⊢
    exact sim_err h 1 (by decide) hp.2
  · rw [if_neg c1] at hp ⊢
    by_cases c2 : mp_in y 0 11 = 0
    · rw [if_pos c2] at hp ⊢
      exact sim_err h 2 (by decide) hp.2
    · rw [if_neg c2] at hp ⊢
      have h8 := h.2.2.1.1.2.1
      obtain ⟨f, hf, rfl⟩ := mp_in_ix (by omega) c1
      have cf : (nI f).toNatClampNeg = f := nI_clamp (by omega)
      rw [cf] at hp ⊢
      obtain ⟨j, hj, rfl⟩ := mp_in_le (n := 11) (by decide) c2
      have cj : (nI j).toNatClampNeg = j := nI_clamp (by omega)
      rw [cj] at hp ⊢
      exact sim_ok (h.up (Nat.le_succ N)) (Nat.le_refl R) ((h.2.2.1.fnow hf (by omega)).trans hp.1) hp.2
def cl_ofRoom (F R : Nat) (σ : hs_St) (x y : Int32) : cl_X := if mp_in x 0 (nI R - 1) = 0 then (1, 0, σ) else if mp_in y 0 3 = 0 then (2, 0, σ) else (0, sp_ofR σ F x.toNatClampNeg y.toNatClampNeg, σ)
theorem sim_ofRoom {x y : Int32} (h : mr P F R N σ ρ) (hp : mp_ofRoomP F R ρ x y b X) : sim R N (cl_ofRoom F R σ x y) b X := by
  unfold mp_ofRoomP at hp
  unfold cl_ofRoom
  by_cases c1 : mp_in x 0 (nI R - 1) = 0
  · rw [if_pos c1] at hp ⊢
    exact sim_err h 1 (by decide) hp.2
  · rw [if_neg c1] at hp ⊢
    by_cases c2 : mp_in y 0 3 = 0
    · rw [if_pos c2] at hp ⊢
      exact sim_err h 2 (by decide) hp.2
    · rw [if_neg c2] at hp ⊢
      have h5 := h.2.2.1.1.2.2
      obtain ⟨r, hr, rfl⟩ := mp_in_ix (by omega) c1
      have cr : (nI r).toNatClampNeg = r := nI_clamp (by omega)
      rw [cr] at hp ⊢
      obtain ⟨j, hj, rfl⟩ := mp_in_le (n := 3) (by decide) c2
      have cj : (nI j).toNatClampNeg = j := nI_clamp (by omega)
      rw [cj] at hp ⊢
      exact sim_ok (h.up (Nat.le_succ N)) (Nat.le_refl R) ((h.2.2.1.rnow hr (by omega)).trans hp.1) hp.2
def cl_many (P F : Nat) (σ : hs_St) (x : Int32) : cl_X := if mp_in x 0 14 = 0 then (1, 0, σ) else (0, sp_many σ P F x.toNatClampNeg, σ)
theorem sim_many {x : Int32} (h : mr P F R N σ ρ) (hp : mp_manyP P F R ρ x b X) : sim R N (cl_many P F σ x) b X := by
  unfold mp_manyP at hp
  unfold cl_many
  by_cases c1 : mp_in x 0 14 = 0
  · rw [if_pos c1] at hp ⊢
    exact sim_err h 1 (by decide) hp.2
  · rw [if_neg c1] at hp ⊢
    obtain ⟨j, hj, rfl⟩ := mp_in_le (n := 14) (by decide) c1
    have cj : (nI j).toNatClampNeg = j := nI_clamp (by omega)
    rw [cj] at hp ⊢
    exact sim_ok (h.up (Nat.le_succ N)) (Nat.le_refl R) ((h.2.2.1.mnow h.hs (by omega)).trans hp.1) hp.2
def cl_wouldFame (P : Nat) (σ : hs_St) (x y z : Int32) : cl_X := if mp_in x 0 (nI P - 1) = 0 then (1, 0, σ) else if mp_in y 0 2 = 0 then (1, 0, σ) else if mp_in z 0 60 = 0 then (2, 0, σ) else (0, sp_fame σ x.toNatClampNeg y.toNatClampNeg z.toNatClampNeg, σ)
theorem sim_wouldFame {x y z : Int32} (h : mr P F R N σ ρ) (hp : mp_wouldFameP P ρ x y z b X) : sim R N (cl_wouldFame P σ x y z) b X := by
  unfold mp_wouldFameP at hp
  unfold cl_wouldFame
  by_cases c1 : mp_in x 0 (nI P - 1) = 0
  · rw [if_pos c1] at hp ⊢
    exact sim_err h 1 (by decide) hp.2
  · rw [if_neg c1] at hp ⊢
    by_cases c2 : mp_in y 0 2 = 0
    · rw [if_pos c2] at hp ⊢
      exact sim_err h 1 (by decide) hp.2
    · rw [if_neg c2] at hp ⊢
      by_cases c3 : mp_in z 0 60 = 0
      · rw [if_pos c3] at hp ⊢
        exact sim_err h 2 (by decide) hp.2
      · rw [if_neg c3] at hp ⊢
        have h10 := h.2.2.1.1.1
        obtain ⟨q, hq, rfl⟩ := mp_in_ix (by omega) c1
        have cq : (nI q).toNatClampNeg = q := nI_clamp (by omega)
        rw [cq] at hp ⊢
        obtain ⟨j, hj, rfl⟩ := mp_in_le (n := 2) (by decide) c2
        have cj : (nI j).toNatClampNeg = j := nI_clamp (by omega)
        rw [cj] at hp ⊢
        exact sim_ok (h.up (Nat.le_succ N)) (Nat.le_refl R) (((h.2.2.1.2.2.1 q hq).fame (by omega) _).1.trans hp.1) hp.2
def cl_readyIn (F : Nat) (σ : hs_St) (x : Int32) : cl_X := if mp_in x 0 (nI F - 1) = 0 then (1, 0, σ) else (0, sp_days σ x.toNatClampNeg, σ)
theorem sim_readyIn {x : Int32} (h : mr P F R N σ ρ) (hp : mp_readyInP F ρ x b X) : sim R N (cl_readyIn F σ x) b X := by
  unfold mp_readyInP at hp
  unfold cl_readyIn
  by_cases c1 : mp_in x 0 (nI F - 1) = 0
  · rw [if_pos c1] at hp ⊢
    exact sim_err h 1 (by decide) hp.2
  · rw [if_neg c1] at hp ⊢
    have h8 := h.2.2.1.1.2.1
    obtain ⟨f, hf, rfl⟩ := mp_in_ix (by omega) c1
    have cf : (nI f).toNatClampNeg = f := nI_clamp (by omega)
    rw [cf] at hp ⊢
    exact sim_ok (h.up (Nat.le_succ N)) (Nat.le_refl R) ((h.2.2.1.2.2.2.1 f hf).ready_.trans hp.1) hp.2
def cl_known (P : Nat) (σ : hs_St) (x y z : Int32) : cl_X := if mp_in x 0 (nI P - 1) = 0 then (1, 0, σ) else if mp_in y 0 5 = 0 then (1, 0, σ) else (0, (if z = 0 then σ 7 x.toNatClampNeg y.toNatClampNeg else σ 8 x.toNatClampNeg y.toNatClampNeg), σ)
theorem sim_known {x y z : Int32} (h : mr P F R N σ ρ) (hp : if mp_in x 0 (nI P - 1) = 0 then (0 : Int32) = b ∧ (1 : Int32) = X.1 ∧ ρ = X.2 else if mp_in y 0 5 = 0 then (0 : Int32) = b ∧ (1 : Int32) = X.1 ∧ ρ = X.2 else (if z = 0 then ρ 12 x.toNatClampNeg y.toNatClampNeg else ρ 13 x.toNatClampNeg y.toNatClampNeg) = b ∧ (0 : Int32) = X.1 ∧ ρ = X.2) : sim R N (cl_known P σ x y z) b X := by
  unfold cl_known
  by_cases c1 : mp_in x 0 (nI P - 1) = 0
  · rw [if_pos c1] at hp ⊢
    exact sim_err h 1 (by decide) hp.2
  · rw [if_neg c1] at hp ⊢
    by_cases c2 : mp_in y 0 5 = 0
    · rw [if_pos c2] at hp ⊢
      exact sim_err h 1 (by decide) hp.2
    · rw [if_neg c2] at hp ⊢
      have h10 := h.2.2.1.1.1
      obtain ⟨q, hq, rfl⟩ := mp_in_ix (by omega) c1
      have cq : (nI q).toNatClampNeg = q := nI_clamp (by omega)
      rw [cq] at hp ⊢
      obtain ⟨j, hj, rfl⟩ := mp_in_le (n := 5) (by decide) c2
      have cj : (nI j).toNatClampNeg = j := nI_clamp (by omega)
      rw [cj] at hp ⊢
      obtain ⟨w1, w2, -⟩ := (h.2.2.1.2.2.1 q hq).2.2.2.2.2 j (by omega)
      rw [w1, w2] at hp
      exact sim_ok (h.up (Nat.le_succ N)) (Nat.le_refl R) hp.1 hp.2
def cl_meltsIn (P F R : Nat) (σ σ2 : hs_St) (x y z : Int32) : cl_X := if mp_in x 0 (nI F - 1) = 0 then (1, 0, σ) else if mp_in y 0 2000 = 0 then (2, 0, σ) else if mp_in z 0 40 = 0 then (2, 0, σ) else (0, (sp_mIn σ σ2 P F R x.toNatClampNeg y z).1, σ)
theorem sim_meltsIn {x y z : Int32} (σ2 : hs_St) (h : mr P F R N σ ρ) (hp : mp_meltsInP P F ρ x y z b X) : sim R N (cl_meltsIn P F R σ σ2 x y z) b X := by
  unfold mp_meltsInP at hp
  unfold cl_meltsIn
  by_cases c1 : mp_in x 0 (nI F - 1) = 0
  · rw [if_pos c1] at hp ⊢
    exact sim_err h 1 (by decide) hp.2
  · rw [if_neg c1] at hp ⊢
    by_cases c2 : mp_in y 0 2000 = 0
    · rw [if_pos c2] at hp ⊢
      exact sim_err h 2 (by decide) hp.2
    · rw [if_neg c2] at hp ⊢
      by_cases c3 : mp_in z 0 40 = 0
      · rw [if_pos c3] at hp ⊢
        exact sim_err h 2 (by decide) hp.2
      · rw [if_neg c3] at hp ⊢
        have h8 := h.2.2.1.1.2.1
        obtain ⟨f, hf, rfl⟩ := mp_in_ix (by omega) c1
        have cf : (nI f).toNatClampNeg = f := nI_clamp (by omega)
        rw [cf] at hp ⊢
        exact sim_ok (h.up (Nat.le_succ N)) (Nat.le_refl R) ((h.2.2.1.melts hf σ2 (mp_in_I c2) (mp_in_I c3)).trans hp.1) hp.2
end SIM2
