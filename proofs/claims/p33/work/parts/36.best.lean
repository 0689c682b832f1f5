/-! NEXT: who is next has nobody ahead; places aren't below 0 -/
theorem bn_held (x : Int32) : 0 ≤ (sp_held x).toInt ∧ (sp_held x).toInt ≤ 999 := by
  unfold sp_held
  split
  · rename_i h
    rw [Int32.le_iff_toInt_le] at h
    split
    · rename_i h2
      rw [Int32.le_iff_toInt_le] at h2
      exact ⟨h, h2⟩
    · decide
  · decide
theorem bn_ft1 (x y : Int32) (n : Nat) : (sp_ft x y (n + 1)).1 = sp_held ((sp_ft x y n).1 + (sp_ft x y n).2) := rfl
theorem bn_ftb (x y : Int32) : ∀ n, 0 < n → 0 ≤ ((sp_ft x y n).1).toInt ∧ ((sp_ft x y n).1).toInt ≤ 999
  | 0, h => absurd h (Nat.lt_irrefl _)
  | n + 1, _ => by
    rw [bn_ft1]
    exact bn_held _
theorem bn_fame (σ : hs_St) (q : Nat) : 0 ≤ (sp_fame σ q 0 6).toInt ∧ (sp_fame σ q 0 6).toInt ≤ 999 := by
  unfold sp_fame
  exact bn_ftb _ _ 6 (by decide)
theorem bn_sub {x y : Int32} (hx : 0 ≤ x.toInt ∧ x.toInt ≤ 999) (hy : 0 ≤ y.toInt ∧ y.toInt ≤ 999) : (x - y).toInt = x.toInt - y.toInt := by
  rw [Int32.toInt_sub]
  exact Int.bmod_eq_of_le (by omega) (by omega)
theorem bn_pos {x y : Int32} (hx : 0 ≤ x.toInt ∧ x.toInt ≤ 999) (hy : 0 ≤ y.toInt ∧ y.toInt ≤ 999) (h : 0 < x - y) : y < x := by
  rw [Int32.lt_iff_toInt_lt, bn_sub hx hy] at h
  rw [Int32.lt_iff_toInt_lt]
  have h0 : (0 : Int32).toInt = 0 := rfl
  omega
theorem bn_zero {x y : Int32} (h : x - y = 0) : x = y := pi_sub0.mp h
/-- one of whom there is no figure, who consents -/
def bn_el (σ : hs_St) (F q : Nat) : Prop := ¬ σ 4 q 5 = 0 ∧ sp_hasFrom σ q F 0 = 0
/-- p is ahead of q -/
def bn_ah (σ : hs_St) (p q : Nat) : Prop := sp_fame σ q 0 6 < sp_fame σ p 0 6 ∨ (sp_fame σ p 0 6 = sp_fame σ q 0 6 ∧ (sp_doubt σ p < sp_doubt σ q ∨ (sp_doubt σ p = sp_doubt σ q ∧ p < q)))
theorem bn_inv (σ : hs_St) (F : Nat) : ∀ n, n ≤ 10 → ((sp_best σ F n).1 = -1 ∧ ∀ p, p < n → ¬ bn_el σ F p) ∨ ∃ q, q < n ∧ sp_best σ F n = (nI q, sp_fame σ q 0 6, sp_doubt σ q) ∧ bn_el σ F q ∧ ∀ p, p < n → bn_el σ F p → ¬ bn_ah σ p q
  | 0, _ => Or.inl ⟨rfl, fun p h => absurd h (Nat.not_lt_zero _)⟩
  | n + 1, hn => by
    have ih := bn_inv σ F n (by omega)
    have keep : ¬ bn_el σ F n → sp_best σ F (n + 1) = sp_best σ F n → (((sp_best σ F (n + 1)).1 = -1 ∧ ∀ p, p < n + 1 → ¬ bn_el σ F p) ∨ ∃ q, q < n + 1 ∧ sp_best σ F (n + 1) = (nI q, sp_fame σ q 0 6, sp_doubt σ q) ∧ bn_el σ F q ∧ ∀ p, p < n + 1 → bn_el σ F p → ¬ bn_ah σ p q) := by
      intro hne he
      rw [he]
      rcases ih with ⟨a, b⟩ | ⟨q, a, b, c, d⟩
      · refine Or.inl ⟨a, fun p hp => ?_⟩
        by_cases e : p = n
        · rw [e]; exact hne
        · exact b p (by omega)
      · refine Or.inr ⟨q, by omega, b, c, fun p hp hel => ?_⟩
        by_cases e : p = n
        · rw [e] at hel; exact absurd hel hne
        · exact d p (by omega) hel
    by_cases c1 : σ 4 n 5 = 0
    · exact keep (fun z => z.1 c1) (by simp only [sp_best]; rw [if_pos c1])
    by_cases c2 : sp_hasFrom σ n F 0 = 0
    · have hel : bn_el σ F n := ⟨c1, c2⟩
      have he : sp_best σ F (n + 1) = sp_pick (sp_best σ F n) (sp_fame σ n 0 6) (sp_doubt σ n) n := by
        simp only [sp_best]
        rw [if_neg c1, if_pos c2]
      rw [he]
      rcases ih with ⟨a, b⟩ | ⟨q, a, b, c, d⟩
      · refine Or.inr ⟨n, by omega, ?_, hel, fun p hp hep => ?_⟩
        · unfold sp_pick
          rw [if_pos a]
        · by_cases e : p = n
          · subst e
            rintro (z | ⟨-, z | ⟨-, z⟩⟩)
            · exact absurd z Int32.lt_irrefl
            · exact absurd z Int32.lt_irrefl
            · omega
          · exact absurd hep (b p (by omega))
      · have h1 : ¬ (sp_best σ F n).1 = -1 := by
          rw [b]
          show ¬ nI q = -1
          intro z
          have z2 := congrArg Int32.toInt z
          rw [nI_toInt (by omega)] at z2
          have z3 : (-1 : Int32).toInt = -1 := rfl
          omega
        unfold sp_pick
        rw [if_neg h1, b]
        show (_ ∧ _) ∨ ∃ q', _
        right
        have bf := bn_fame σ q
        have bg := bn_fame σ n
        by_cases k1 : sp_fame σ q 0 6 < sp_fame σ n 0 6
        · refine ⟨n, by omega, by rw [if_pos k1], hel, fun p hp hep => ?_⟩
          by_cases e : p = n
          · subst e
            rintro (z | ⟨-, z | ⟨-, z⟩⟩)
            · exact absurd z Int32.lt_irrefl
            · exact absurd z Int32.lt_irrefl
            · omega
          · intro z
            refine d p (by omega) hep ?_
            rcases z with z | ⟨z, -⟩
            · exact Or.inl (Int32.lt_trans k1 z)
            · exact Or.inl (by rw [z]; exact k1)
        · by_cases k2 : sp_fame σ n 0 6 = sp_fame σ q 0 6
          · by_cases k3 : sp_doubt σ q ≤ sp_doubt σ n
            · refine ⟨q, by omega, by rw [if_neg k1, if_pos k2, if_pos k3], c, fun p hp hep => ?_⟩
              by_cases e : p = n
              · subst e
                rintro (z | ⟨-, z | ⟨-, z⟩⟩)
                · exact k1 z
                · rw [Int32.lt_iff_toInt_lt] at z
                  rw [Int32.le_iff_toInt_le] at k3
                  omega
                · omega
              · exact d p (by omega) hep
            · refine ⟨n, by omega, by rw [if_neg k1, if_pos k2, if_neg k3], hel, fun p hp hep => ?_⟩
              have k4 : sp_doubt σ n < sp_doubt σ q := by
                rw [Int32.le_iff_toInt_le] at k3
                rw [Int32.lt_iff_toInt_lt]
                omega
              by_cases e : p = n
              · subst e
                rintro (z | ⟨-, z | ⟨-, z⟩⟩)
                · exact absurd z Int32.lt_irrefl
                · exact absurd z Int32.lt_irrefl
                · omega
              · intro z
                refine d p (by omega) hep ?_
                rcases z with z | ⟨z, z2 | ⟨z2, -⟩⟩
                · exact Or.inl (by rw [← k2]; exact z)
                · exact Or.inr ⟨z.trans k2, Or.inl (Int32.lt_trans z2 k4)⟩
                · exact Or.inr ⟨z.trans k2, Or.inl (by rw [z2]; exact k4)⟩
          · have k5 : sp_fame σ n 0 6 < sp_fame σ q 0 6 := by
              rw [Int32.lt_iff_toInt_lt] at k1 ⊢
              have : (sp_fame σ n 0 6).toInt ≠ (sp_fame σ q 0 6).toInt := fun z => k2 (Int32.toInt_inj.mp z)
              omega
            refine ⟨q, by omega, by rw [if_neg k1, if_neg k2], c, fun p hp hep => ?_⟩
            by_cases e : p = n
            · subst e
              rintro (z | ⟨z, -⟩)
              · exact k1 z
              · exact k2 z
            · exact d p (by omega) hep
    · exact keep (fun z => c2 z.2) (by simp only [sp_best]; rw [if_neg c1, if_neg c2])
/-- the class's word that there is no figure of one, out of the law's own look at them -/
theorem bn_has (σ : hs_St) (q : Nat) : ∀ k n, (∀ f, n ≤ f → f < n + k → σ 9 f 7 = 7 ∨ ¬ (σ 9 f 0).toNatClampNeg = q) → sp_hasFrom σ q k n = 0
  | 0, _, _ => rfl
  | k + 1, n, h => by
    have ih := bn_has σ q k (n + 1) (fun f h1 h2 => h f (by omega) (by omega))
    unfold sp_hasFrom
    split
    · rename_i e
      rw [if_pos (by
        rcases h n (Nat.le_refl _) (by omega) with z | z
        · exact z
        · exact absurd e z)]
      exact ih
    · exact ih
section PLC
variable {σ : hs_St} {P F : Nat}
theorem pl_wear {f g : Nat} (h : 0 ≤ σ 9 g 7) (x y z : Int32) : 0 ≤ (sp_wear σ f x y z).2 9 g 7 := by
  have hw : sp_worn σ f x y z 9 g 7 = σ 9 g 7 := by
    unfold sp_worn
    try simp only []
    rw [pc_sg, if_neg (by omega), pc_sg, if_neg (by omega), pc_sg, if_neg (by omega)]
  unfold sp_wear
  split
  · show 0 ≤ sp_melt _ f 9 g 7
    unfold sp_melt
    rw [pc_sg, if_neg (by omega), pc_sg]
    split
    · decide
    · rw [hw]
      exact h
  · show 0 ≤ sp_worn σ f x y z 9 g 7
    rw [hw]
    exact h
theorem pl_wearAll {g : Nat} (h : 0 ≤ σ 9 g 7) (x y z : Int32) : ∀ n, 0 ≤ (sp_wearAll σ x y z n).2 9 g 7
  | 0 => h
  | n + 1 => by
    unfold sp_wearAll
    split
    · exact pl_wearAll h x y z n
    · exact pl_wear (pl_wearAll h x y z n) _ _ _
theorem pl_day {g : Nat} (h : 0 ≤ σ 9 g 7) (x z : Int32) : 0 ≤ (sp_day σ P F x z).2 9 g 7 := by
  have h2 : 0 ≤ (sp_eve (sp_workAll (sp_dawn σ P) F).2 F x z).2 9 g 7 := pl_wearAll (by rw [q9_paid, q7_workAll, q9_dawn]; exact h) _ _ z F
  rcases q7_tourAll (σ := (sp_eve (sp_workAll (sp_dawn σ P) F).2 F x z).2) g F with e | ⟨-, e⟩
  · show 0 ≤ sp_tourAll (sp_eve (sp_workAll (sp_dawn σ P) F).2 F x z).2 F 9 g 7
    rw [e]
    exact h2
  · show 0 ≤ sp_tourAll (sp_eve (sp_workAll (sp_dawn σ P) F).2 F x z).2 F 9 g 7
    rw [e]
    decide
theorem pl_pass {g : Nat} (h : 0 ≤ σ 9 g 7) (x z : Int32) : ∀ n, 0 ≤ (sp_pass σ P F x z n).2 9 g 7
  | 0 => h
  | n + 1 => pl_day (pl_pass h x z n) x z
theorem q5_wear (f a b : Nat) (hb : b ≠ 6) (x y z : Int32) : (sp_wear σ f x y z).2 4 a b = σ 4 a b := by
  have hw : sp_worn σ f x y z 4 a b = σ 4 a b := by
    unfold sp_worn
    try simp only []
    rw [pc_sg, if_neg (by omega), pc_sg, if_neg (fun z => hb z.2.2), pc_sg, if_neg (by omega)]
  unfold sp_wear
  split
  · show sp_melt _ f 4 a b = _
    unfold sp_melt
    rw [pc_sg, if_neg (by omega), pc_sg, if_neg (by omega)]
    exact hw
  · exact hw
/-- consent stays -/
theorem q5_day (a b : Nat) (hb : b ≠ 6) (x z : Int32) : (sp_day σ P F x z).2 4 a b = σ 4 a b := by
  have hm : ∀ n, sp_monAll (hs_sg σ 0 0 6 (σ 0 0 6 + 1)) n 4 a b = σ 4 a b := fun n => by
    rw [sp_monAll_off _ _ _ _ (by omega), pc_sg, if_neg (by omega)]
  have hd : sp_dawn σ P 4 a b = σ 4 a b := by
    unfold sp_dawn
    split
    · exact hm P
    · rw [pc_sg, if_neg (by omega)]
  have hw : ∀ n, (sp_wearAll (sp_paid (sp_workAll (sp_dawn σ P) F).2 x) (sp_come (sp_workAll (sp_dawn σ P) F).2 x) (sp_draws (sp_workAll (sp_dawn σ P) F).2 0 4 F) z n).2 4 a b = σ 4 a b := by
    intro n
    induction n with
    | zero =>
      show sp_paid (sp_workAll (sp_dawn σ P) F).2 x 4 a b = _
      unfold sp_paid
      rw [pc_sg, if_neg (by omega), pc_sg, if_neg (by omega), qk_workAll 4 (by omega)]
      exact hd
    | succ n ih =>
      simp only [sp_wearAll]
      split
      · exact ih
      · exact (q5_wear n a b hb _ _ _).trans ih
  show sp_tourAll (sp_eve (sp_workAll (sp_dawn σ P) F).2 F x z).2 F 4 a b = _
  rw [qk_tourAll 4 (by omega) a b (by omega)]
  exact hw F
theorem q5_pass (a b : Nat) (hb : b ≠ 6) (x z : Int32) : ∀ n, (sp_pass σ P F x z n).2 4 a b = σ 4 a b
  | 0 => rfl
  | n + 1 => (q5_day a b hb x z).trans (q5_pass a b hb x z n)
end PLC
