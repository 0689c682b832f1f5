/-! SIDE BY SIDE: live and not yet live -/
/-- what isn't live yet is as new -/
def rN (P F : Nat) (σ ρ : hs_St) : Prop := (∀ q, P ≤ q → q < 10 → (∀ j, j < 3 → σ 5 q j = 0 ∧ σ 6 q j = 0) ∧ (∀ j, j < 6 → σ 7 q j = 0 ∧ σ 8 q j = 99) ∧ (σ 4 q 5 = 0 ∧ σ 4 q 6 = 0 ∧ σ 4 q 7 = 0) ∧ (∀ j, j < 9 → ρ 11 q j = 0) ∧ ∀ j, j < 6 → ρ 12 q j = 0) ∧ ∀ f, F ≤ f → f < 8 → ((σ 9 f 0).toNatClampNeg < 10 ∧ (σ 9 f 1).toNatClampNeg < 10) ∧ σ 9 f 2 = 0 ∧ σ 9 f 3 = 0 ∧ σ 9 f 4 = 0 ∧ σ 9 f 5 = 0 ∧ σ 9 f 6 = 0 ∧ σ 9 f 7 = 5 ∧ σ 9 f 8 = 0 ∧ σ 9 f 9 = 0 ∧ σ 9 f 10 = 0
def mr (P F R N : Nat) (σ ρ : hs_St) : Prop := (σ 0 0 3 = nI P ∧ σ 0 0 4 = nI F ∧ σ 0 0 5 = nI R) ∧ (ρ 0 0 6 = nI P ∧ ρ 0 0 7 = nI F ∧ ρ 0 0 8 = nI R) ∧ mrL P F R N σ ρ ∧ rN P F σ ρ
def dS (P F k i : Nat) : Prop := (4 ≤ k ∧ k ≤ 8 ∧ P ≤ i) ∨ (k = 9 ∧ F ≤ i)
def dR (P k i : Nat) : Prop := (k = 11 ∨ k = 12) ∧ P ≤ i
section RELN
variable {P F R N q f : Nat} {σ ρ σ' ρ' : hs_St}
theorem rN.same {P' F' : Nat} (h : rN P F σ ρ) (hP : P ≤ P') (hF : F ≤ F') (hs : ∀ k i j, dS P' F' k i → σ' k i j = σ k i j) (gs : ∀ k i j, dR P' k i → ρ' k i j = ρ k i j) : rN P' F' σ' ρ' := by
  refine ⟨fun q h1 h2 => ?_, fun f h1 h2 => ?_⟩
  · obtain ⟨a1, a2, a3, a4, a5⟩ := h.1 q (by omega) h2
    have s_ : ∀ k j, 4 ≤ k → k ≤ 8 → σ' k q j = σ k q j := fun k j x y => hs k q j (Or.inl ⟨x, y, h1⟩)
    refine ⟨fun j hj => ?_, fun j hj => ?_, ?_, fun j hj => ?_, fun j hj => ?_⟩
    · rw [s_ 5 j (by decide) (by decide), s_ 6 j (by decide) (by decide)]; exact a1 j hj
    · rw [s_ 7 j (by decide) (by decide), s_ 8 j (by decide) (by decide)]; exact a2 j hj
    · rw [s_ 4 5 (by decide) (by decide), s_ 4 6 (by decide) (by decide), s_ 4 7 (by decide) (by decide)]; exact a3
    · rw [gs 11 q j ⟨Or.inl rfl, h1⟩]; exact a4 j hj
    · rw [gs 12 q j ⟨Or.inr rfl, h1⟩]; exact a5 j hj
  · have s_ : ∀ j, σ' 9 f j = σ 9 f j := fun j => hs 9 f j (Or.inr ⟨rfl, h1⟩)
    rw [s_ 0, s_ 1, s_ 2, s_ 3, s_ 4, s_ 5, s_ 6, s_ 7, s_ 8, s_ 9, s_ 10]
    exact h.2 f (by omega) h2
theorem mr.hs (h : mr P F R N σ ρ) : hs_ok P F R σ := by
  obtain ⟨⟨c1, c2, c3⟩, -, hl, hn⟩ := h
  refine ⟨hl.1.1, hl.1.2.1, hl.1.2.2, c1, c2, c3, fun f hf => ?_⟩
  rcases Nat.lt_or_ge f F with hF | hF
  · have h1 := hl.2.2.2.1 f hF
    have hP := hl.1.1
    obtain ⟨⟨q1, -⟩, q2, -⟩ := h1.heads hP
    obtain ⟨-, -, ⟨j, hj, e1, -⟩, -, -, -, ⟨-, hp⟩, -⟩ := h1
    refine ⟨⟨by omega, by omega⟩, ⟨j, hj, e1⟩, ?_⟩
    rcases hp with ⟨r, hr, e, -⟩ | e | ⟨e, -⟩ | ⟨e, -⟩
    · exact Or.inr (Or.inr ⟨r, hr, e⟩)
    · exact Or.inr (Or.inl (by rw [e]; decide))
    · exact Or.inr (Or.inl (by rw [e]; decide))
    · exact Or.inr (Or.inl (by rw [e]; decide))
  · obtain ⟨a0, a2, -, -, -, -, a7, -⟩ := hn.2 f hF hf
    exact ⟨a0, ⟨0, by decide, by rw [a2]; decide⟩, Or.inr (Or.inl (by rw [a7]; decide))⟩
theorem mr.mh (h : mr P F R N σ ρ) : mh_ok P F R ρ := by
  obtain ⟨-, ⟨c1, c2, c3⟩, hl, -⟩ := h
  refine ⟨hl.1.1, hl.1.2.1, hl.1.2.2, c1, c2, c3, fun f hf => ?_⟩
  obtain ⟨⟨h0, k0, a0, b0⟩, ⟨h1, k1, a1, b1⟩, ⟨j, hj, e1, e2, -⟩, -, -, -, ⟨e7, hp⟩, ⟨el, ⟨a, ha, ea⟩⟩, -⟩ := hl.2.2.2.1 f hf
  refine ⟨⟨h0, k0, b0⟩, ⟨h1, k1, b1⟩, ⟨j, hj, e2⟩, ?_, ⟨a, ha, by rw [el, ea]⟩⟩
  rw [e7]
  rcases hp with ⟨r, hr, e, -⟩ | e | ⟨e, -⟩ | ⟨e, -⟩
  · exact Or.inl ⟨r, hr, e⟩
  · exact Or.inr (Or.inl e)
  · exact Or.inr (Or.inr (Or.inl e))
  · exact Or.inr (Or.inr (Or.inr e))
theorem rS.up {N' : Nat} (h : rS N σ ρ) (hN : N ≤ N') : rS N' σ ρ := by
  obtain ⟨s1, s2, ⟨s3, i3⟩, s4, s5⟩ := h
  exact ⟨s1, s2, ⟨s3, I_mono i3 (Int.le_refl _) (by omega)⟩, s4, s5⟩
theorem mrL.up {N' : Nat} (h : mrL P F R N σ ρ) (hN : N ≤ N') : mrL P F R N' σ ρ := ⟨h.1, h.2.1.up hN, h.2.2⟩
theorem mr.up {N' : Nat} (h : mr P F R N σ ρ) (hN : N ≤ N') : mr P F R N' σ ρ := ⟨h.1, h.2.1, h.2.2.1.up hN, h.2.2.2⟩
/-- nobody and nothing new -/
theorem mr.put {N' : Nat} (h : mr P F R N σ ρ) (hl : mrL P F R N' σ' ρ') (hc : ∀ j, 3 ≤ j → j < 6 → σ' 0 0 j = σ 0 0 j) (gc : ∀ j, 6 ≤ j → j < 9 → ρ' 0 0 j = ρ 0 0 j) (hs : ∀ k i j, dS P F k i → σ' k i j = σ k i j) (gs : ∀ k i j, dR P k i → ρ' k i j = ρ k i j) : mr P F R N' σ' ρ' := by
  obtain ⟨⟨c1, c2, c3⟩, ⟨d1, d2, d3⟩, -, hn⟩ := h
  exact ⟨⟨by rw [hc 3 (by decide) (by decide)]; exact c1, by rw [hc 4 (by decide) (by decide)]; exact c2, by rw [hc 5 (by decide) (by decide)]; exact c3⟩, ⟨by rw [gc 6 (by decide) (by decide)]; exact d1, by rw [gc 7 (by decide) (by decide)]; exact d2, by rw [gc 8 (by decide) (by decide)]; exact d3⟩, hl, hn.same (Nat.le_refl _) (Nat.le_refl _) hs gs⟩
/-! days leave alone what isn't live -/
theorem sp_mon_q (σ : hs_St) (q k i j : Nat) (h : ¬ i = q) : ∀ n, sp_mon σ q n k i j = σ k i j := by
  intro n
  induction n with
  | zero => rfl
  | succ n ih =>
    rw [sp_mon, pc9, if_neg (by omega), pc9, if_neg (by omega)]
    exact ih
theorem sp_monAll_q (σ : hs_St) (k i j : Nat) : ∀ n, n ≤ i → sp_monAll σ n k i j = σ k i j := by
  intro n
  induction n with
  | zero => exact fun _ => rfl
  | succ n ih =>
    intro h
    rw [sp_monAll, sp_mon_q _ _ _ _ _ (by omega)]
    exact ih (by omega)
theorem sp_dawn_off (σ : hs_St) (P k i j : Nat) (hk : ¬ k = 0) (h : (k = 5 ∨ k = 6) → P ≤ i) : sp_dawn σ P k i j = σ k i j := by
  have h1 : ∀ v, hs_sg σ 0 0 6 v k i j = σ k i j := fun v => by rw [pc9, if_neg (by omega)]
  unfold sp_dawn
  split
  · by_cases e : k = 5 ∨ k = 6
    · rw [sp_monAll_q _ _ _ _ _ (h e)]
      exact h1 _
    · rw [sp_monAll_off _ _ _ _ (by omega)]
      exact h1 _
  · exact h1 _
theorem sp_workAll_off (σ : hs_St) (k i j : Nat) : ∀ n, (k = 9 → n ≤ i ∨ ¬ (j = 2 ∨ j = 3 ∨ j = 4 ∨ j = 5)) → (sp_workAll σ n).2 k i j = σ k i j := by
  intro n
  induction n with
  | zero => exact fun _ => rfl
  | succ n ih =>
    intro h
    rw [sp_workAll]
    show (sp_wd (sp_workAll σ n).2 n).2 k i j = _
    rw [sp_wd_off _ _ _ _ _ (by omega)]
    exact ih (by omega)
theorem sp_wear_4 (σ : hs_St) (f i j : Nat) (x y z : Int32) (h : ¬ i = (σ 9 f 0).toNatClampNeg) : (sp_wear σ f x y z).2 4 i j = σ 4 i j := by
  unfold sp_wear sp_melt
  split
  · show hs_sg (hs_sg (sp_worn σ f x y z) 9 f 7 7) 9 f 4 0 4 i j = _
    rw [pc9, if_neg (by omega), pc9, if_neg (by omega)]
    unfold sp_worn
    rw [pc9, if_neg (by omega), pc9, if_neg (by omega), pc9, if_neg (by omega)]
  · show sp_worn σ f x y z 4 i j = _
    unfold sp_worn
    rw [pc9, if_neg (by omega), pc9, if_neg (by omega), pc9, if_neg (by omega)]
theorem sp_wearAll_4 (σ : hs_St) (x y z : Int32) (i j : Nat) : ∀ n, (∀ f, f < n → (σ 9 f 0).toNatClampNeg < P) → P ≤ i → (sp_wearAll σ x y z n).2 4 i j = σ 4 i j := by
  intro n
  induction n with
  | zero => exact fun _ _ => rfl
  | succ n ih =>
    intro h hi
    have i1 := ih (fun f hf => h f (by omega)) hi
    have h0 : (sp_wearAll σ x y z n).2 9 n 0 = σ 9 n 0 := sp_wearAll_off σ x y z 9 n 0 (by decide) n (by omega)
    have hh := h n (by omega)
    rw [sp_wearAll]
    split
    · exact i1
    · show (sp_wear (sp_wearAll σ x y z n).2 n _ _ z).2 4 i j = _
      rw [sp_wear_4 _ _ _ _ _ _ _ (by rw [h0]; omega)]
      exact i1
theorem sp_tourAll_off (σ : hs_St) (k i j : Nat) (hk : ¬ k = 0) : ∀ n, (k = 9 → n ≤ i) → sp_tourAll σ n k i j = σ k i j := by
  intro n
  induction n with
  | zero => exact fun _ => rfl
  | succ n ih =>
    intro h
    have i1 := ih (by omega)
    rw [sp_tourAll]
    split
    · rw [pc9, if_neg (by omega)]
      unfold sp_tour
      split
      · rw [pc9, if_neg (by omega), pc9, if_neg (by omega)]
        exact i1
      · rw [pc9, if_neg (by omega), pc9, if_neg (by omega), pc9, if_neg (by omega), pc9, if_neg (by omega)]
        exact i1
    · exact i1
theorem sp_day_off (x z : Int32) (hh : ∀ f, f < F → (σ 9 f 0).toNatClampNeg < P) (k i j : Nat) (hd : dS P F k i) : (sp_day σ P F x z).2 k i j = σ k i j := by
  have h0 : ¬ k = 0 := by
    unfold dS at hd
    omega
  have e1 : (sp_workAll (sp_dawn σ P) F).2 k i j = σ k i j := by
    unfold dS at hd
    rw [sp_workAll_off _ _ _ _ F (by omega), sp_dawn_off _ _ _ _ _ h0 (by omega)]
  have e2 : sp_paid (sp_workAll (sp_dawn σ P) F).2 x k i j = σ k i j := by
    unfold sp_paid
    rw [pc9, if_neg (by omega), pc9, if_neg (by omega)]
    exact e1
  show sp_tourAll (sp_eve (sp_workAll (sp_dawn σ P) F).2 F x z).2 F k i j = _
  rw [sp_tourAll_off _ _ _ _ h0 F (by unfold dS at hd; omega)]
  unfold sp_eve
  by_cases e4 : k = 4
  · subst e4
    rw [sp_wearAll_4 (P := P) _ _ _ _ _ _ F (fun f hf => ?_) (by unfold dS at hd; omega)]
    · exact e2
    · have e9 : sp_paid (sp_workAll (sp_dawn σ P) F).2 x 9 f 0 = σ 9 f 0 := by
        unfold sp_paid
        rw [pc9, if_neg (by omega), pc9, if_neg (by omega), sp_workAll_off _ _ _ _ F (by omega), sp_dawn_off _ _ _ _ _ (by decide) (by omega)]
      rw [e9]
      exact hh f hf
  · rw [sp_wearAll_off _ _ _ _ _ _ _ e4 F (by unfold dS at hd; omega)]
    exact e2
theorem sp_day_0 (x z : Int32) (j : Nat) (hj : 3 ≤ j) (hj6 : j < 6) : (sp_day σ P F x z).2 0 0 j = σ 0 0 j := by
  have t0 : ∀ (τ : hs_St) n, sp_tourAll τ n 0 0 j = τ 0 0 j := by
    intro τ n
    induction n with
    | zero => rfl
    | succ n ih =>
      rw [sp_tourAll]
      split
      · rw [pc9, if_neg (by omega)]
        unfold sp_tour
        split
        · rw [pc9, if_neg (by omega), pc9, if_neg (by omega)]
          exact ih
        · rw [pc9, if_neg (by omega), pc9, if_neg (by omega), pc9, if_neg (by omega), pc9, if_neg (by omega)]
          exact ih
      · exact ih
  show sp_tourAll (sp_eve (sp_workAll (sp_dawn σ P) F).2 F x z).2 F 0 0 j = _
  rw [t0]
  unfold sp_eve
  rw [sp_wearAll_off _ _ _ _ _ _ _ (by decide) F (by omega)]
  unfold sp_paid
  rw [pc9, if_neg (by omega), pc9, if_neg (by omega), sp_workAll_off _ _ _ _ F (by omega)]
  unfold sp_dawn
  split
  · rw [sp_monAll_off _ _ _ _ (by omega), pc9, if_neg (by omega)]
  · rw [pc9, if_neg (by omega)]
theorem mp_mons_q (ρ : hs_St) (q k i j : Nat) (h : ¬ (k = 11 ∧ i = q)) : ∀ n, mp_mons ρ q n k i j = ρ k i j := by
  intro n
  induction n with
  | zero => rfl
  | succ n ih =>
    rw [mp_mons]
    unfold hs_row
    rw [if_neg h]
    exact ih
theorem mp_monAll_q (ρ : hs_St) (k i j : Nat) : ∀ n, (k = 11 → n ≤ i) → mp_monAll ρ n k i j = ρ k i j := by
  intro n
  induction n with
  | zero => exact fun _ => rfl
  | succ n ih =>
    intro h
    rw [mp_monAll, mp_mons_q _ _ _ _ _ (by omega)]
    exact ih (by omega)
theorem mp_works_k (ρ : hs_St) (k i j : Nat) (hk : ¬ k = 14) : ∀ n, (mp_works ρ n).2 k i j = ρ k i j := by
  intro n
  induction n with
  | zero => rfl
  | succ n ih =>
    rw [mp_works]
    split
    · exact ih
    · split
      · exact ih
      · show (mp_work (mp_works ρ n).2 n).2 k i j = _
        rw [mp_work_off _ _ _ _ _ (by omega)]
        exact ih
theorem mp_works_0 (ρ : hs_St) (f : Nat) : ∀ n, (mp_works ρ n).2 14 f 0 = ρ 14 f 0 := by
  intro n
  induction n with
  | zero => rfl
  | succ n ih =>
    rw [mp_works]
    split
    · exact ih
    · split
      · exact ih
      · show (mp_work (mp_works ρ n).2 n).2 14 f 0 = _
        rw [mp_work_off _ _ _ _ _ (by omega)]
        exact ih
theorem mp_wears_k (ρ : hs_St) (g : Nat → Int32) (z c : Int32) (k i j : Nat) (hk : ¬ (k = 14 ∧ ¬ j = 0)) : ∀ n, (∀ f, f < n → (ρ 14 f 0).toNatClampNeg < P) → (k = 11 → P ≤ i) → (mp_wears ρ g z c n).2 k i j = ρ k i j := by
  intro n
  induction n generalizing k i j with
  | zero => exact fun _ _ => rfl
  | succ n ih =>
    intro h hi
    have i1 := ih k i j hk (fun f hf => h f (by omega)) hi
    have h0 : (mp_wears ρ g z c n).2 14 n 0 = ρ 14 n 0 := ih 14 n 0 (by omega) (fun f hf => h f (by omega)) (by omega)
    have hh := h n (by omega)
    rw [mp_wears]
    split
    · exact i1
    · rw [h0]
      show (mp_wear (mp_wears ρ g z c n).2 n _ _ (g n) z).2 k i j = _
      unfold mp_wear mp_worn
      split
      · show hs_sg _ 14 n 7 7 k i j = _
        rw [pc9, if_neg (by omega), pc9, if_neg (by omega), pc9, if_neg (by omega), pc9, if_neg (by omega)]
        exact i1
      · show hs_sg _ 14 n 6 _ k i j = _
        rw [pc9, if_neg (by omega), pc9, if_neg (by omega), pc9, if_neg (by omega)]
        exact i1
theorem mp_trips_k (ρ : hs_St) (k i j : Nat) (hk : ¬ k = 14) (h0 : ¬ (k = 0 ∧ j = 12)) : ∀ n, mp_trips ρ n k i j = ρ k i j := by
  intro n
  induction n with
  | zero => rfl
  | succ n ih =>
    rw [mp_trips]
    split
    · unfold mp_trip mp_trip1
      split
      · rw [pc9, if_neg (by omega), pc9, if_neg (by omega), pc9, if_neg (by omega), pc9, if_neg (by omega)]
        exact ih
      · rw [pc9, if_neg (by omega), pc9, if_neg (by omega), pc9, if_neg (by omega)]
        exact ih
    · exact ih
theorem mp_go_k (x z : Int32) (hh : ∀ f, f < F → (ρ 14 f 0).toNatClampNeg < P) (k i j : Nat) (hd : dR P k i ∨ (k = 0 ∧ 6 ≤ j ∧ j < 9)) : (mp_go ρ P F x z).2 k i j = ρ k i j := by
  have hd2 : ¬ k = 14 ∧ (k = 11 → P ≤ i) ∧ ¬ (k = 0 ∧ (j = 12 ∨ j = 10 ∨ j = 9)) := by
    unfold dR at hd
    omega
  have e1 : mp_eve ρ P F x k i j = ρ k i j := by
    unfold mp_eve mp_paid
    rw [pc9, if_neg (by omega), pc9, if_neg (by omega), mp_works_k _ _ _ _ hd2.1]
    unfold mp_dawn
    split
    · rw [mp_monAll_q _ _ _ _ _ hd2.2.1, pc9, if_neg (by omega)]
    · rw [pc9, if_neg (by omega)]
  have e0 : ∀ f, mp_eve ρ P F x 14 f 0 = ρ 14 f 0 := fun f => by
    unfold mp_eve mp_paid
    rw [pc9, if_neg (by omega), pc9, if_neg (by omega), mp_works_0, mp_dawn_14]
  unfold mp_go
  show mp_trips _ F k i j = _
  rw [mp_trips_k _ _ _ _ hd2.1 (by omega), mp_wears_k (P := P) _ _ _ _ _ _ _ (by omega) F (fun f hf => by rw [e0]; exact hh f hf) hd2.2.1]
  exact e1
theorem mr.day (h : mr P F R N σ ρ) {x z : Int32} (hx : I_ x 0 2000) (hz : I_ z 0 40) : (sp_day σ P F x z).1 = (mp_go ρ P F x z).1 ∧ mr P F R N (sp_day σ P F x z).2 (mp_go ρ P F x z).2 := by
  obtain ⟨d1, d2⟩ := h.2.2.1.day hx hz
  have hh : ∀ f, f < F → (σ 9 f 0).toNatClampNeg < P ∧ (ρ 14 f 0).toNatClampNeg < P := fun f hf => by
    obtain ⟨⟨q1, q2⟩, -⟩ := (h.2.2.1.2.2.2.1 f hf).heads h.2.2.1.1.1
    exact ⟨q1, by rw [q2]; exact q1⟩
  exact ⟨d1, h.put d2 (fun j h3 h6 => sp_day_0 x z j h3 h6) (fun j h6 h9 => mp_go_k x z (fun f hf => (hh f hf).2) 0 0 j (Or.inr ⟨rfl, h6, h9⟩)) (fun k i j y => sp_day_off x z (fun f hf => (hh f hf).1) k i j y) (fun k i j y => mp_go_k x z (fun f hf => (hh f hf).2) k i j (Or.inl y))⟩
theorem mr.pass (h : mr P F R N σ ρ) {x z : Int32} (hx : I_ x 0 2000) (hz : I_ z 0 40) : ∀ n, (sp_pass σ P F x z n).1 = (mp_days ρ P F x z n).1 ∧ mr P F R N (sp_pass σ P F x z n).2 (mp_days ρ P F x z n).2 := by
  intro n
  induction n with
  | zero => exact ⟨rfl, h⟩
  | succ n ih =>
    obtain ⟨i1, i2⟩ := ih
    obtain ⟨d1, d2⟩ := i2.day hx hz
    exact ⟨by rw [sp_pass, mp_days]; show _ + _ = _ + _; rw [i1, d1], d2⟩
end RELN
