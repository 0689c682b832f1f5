/-! THE CLASS AND THE REFERENCE, side by side: what is live -/
/-- a person -/
def rP (σ ρ : hs_St) (q : Nat) : Prop := (∀ j, j < 3 → ρ 11 q j = σ 5 q j ∧ I_ (σ 5 q j) 0 999) ∧ (∀ j, j < 3 → ρ 11 q (3 + j) = σ 6 q j ∧ I_ (σ 6 q j) (-40) 40) ∧ (ρ 11 q 6 = σ 4 q 5 ∧ (σ 4 q 5 = 0 ∨ σ 4 q 5 = 1)) ∧ ρ 11 q 7 = σ 4 q 6 ∧ ρ 11 q 8 = σ 4 q 7 ∧ ∀ j, j < 6 → ρ 12 q j = σ 7 q j ∧ ρ 13 q j = σ 8 q j ∧ I_ (σ 7 q j) 0 99 ∧ I_ (σ 8 q j) 0 99 ∧ (σ 7 q j).toInt ≤ (σ 8 q j).toInt
/-- a figure's row, here and there -/
def rF (P R : Nat) (a b : Nat → Int32) : Prop := (∃ h, h < P ∧ a 0 = nI h ∧ b 0 = nI h) ∧ (∃ h, h < P ∧ a 1 = nI h ∧ b 1 = nI h) ∧ (∃ j, j ≤ 6 ∧ a 2 = nI j ∧ b 2 = nI j ∧ (j < 6 → I_ (a 3) 0 ((hs_wk j).toInt - 1) ∧ b 3 = hs_wk j - a 3) ∧ (j = 6 → a 3 = 0 ∧ b 3 = 0 ∧ a 4 = 0)) ∧ (b 4 = a 4 ∧ I_ (a 4) 0 9) ∧ (b 5 = a 5 ∧ I_ (a 5) 0 99) ∧ (b 6 = a 6 ∧ I_ (a 6) 0 100) ∧ (b 7 = a 7 ∧ ((∃ r, r < R ∧ a 7 = nI r ∧ a 2 = 6) ∨ a 7 = 5 ∨ (a 7 = 6 ∧ I_ (a 9) 1 60) ∨ (a 7 = 7 ∧ a 4 = 0))) ∧ (b 9 = a 8 ∧ ∃ r, r < 3 ∧ a 8 = nI r) ∧ b 8 = a 9 ∧ b 10 = a 10
def rR (σ ρ : hs_St) (r : Nat) : Prop := ρ 5 0 r = σ 10 r 0 ∧ ρ 6 0 r = σ 10 r 1 ∧ I_ (σ 10 r 0) 0 9
/-- N: how many calls went by (wax grows by 20 a call at most) -/
def rS (N : Nat) (σ ρ : hs_St) : Prop := ρ 0 0 9 = σ 0 0 6 ∧ ρ 0 0 12 = σ 0 0 7 ∧ (ρ 0 0 13 = σ 0 0 8 ∧ I_ (σ 0 0 8) 0 (30 + 20 * N)) ∧ (ρ 0 0 11 = σ 0 0 9 ∧ I_ (σ 0 0 9) 0 20) ∧ ρ 0 0 10 = σ 0 0 10
def mrL (P F R N : Nat) (σ ρ : hs_St) : Prop := (P ≤ 10 ∧ F ≤ 8 ∧ R ≤ 5) ∧ rS N σ ρ ∧ (∀ q, q < P → rP σ ρ q) ∧ (∀ f, f < F → rF P R (σ 9 f) (ρ 14 f)) ∧ ∀ r, r < R → rR σ ρ r
section RELR
variable {P F R N q f : Nat} {σ ρ : hs_St}
theorem rP.width (h : rP σ ρ q) : ∀ n, n ≤ 6 → sp_width σ q n = mp_width ρ q n ∧ I_ (sp_width σ q n) 0 (99 * n) := by
  intro n
  induction n with
  | zero => exact fun _ => ⟨rfl, Int.le_refl _, by show (0 : Int) ≤ _ * 0; omega⟩
  | succ n ih =>
    intro hn
    obtain ⟨i1, i2⟩ := ih (by omega)
    obtain ⟨h1, h2, h3, h4, h5⟩ := h.2.2.2.2.2 n (by omega)
    refine ⟨?_, ?_⟩
    · rw [sp_width, mp_width, i1, h1, h2]
    · rw [sp_width]
      have e : (σ 8 q n - σ 7 q n).toInt = (σ 8 q n).toInt - (σ 7 q n).toInt := tI_sub (by have := h4.1; have := h3.2; omega) (by have := h4.2; have := h3.1; omega)
      have k : I_ (σ 8 q n - σ 7 q n) 0 99 := by
        unfold I_
        rw [e]
        have := h3.1; have := h4.2
        omega
      exact I_mono (I_add i2 k (by omega) (by omega)) (by omega) (by omega)
theorem rP.doubt (h : rP σ ρ q) : sp_doubt σ q = mp_doubt ρ q ∧ I_ (sp_doubt σ q) 0 99 := by
  obtain ⟨h1, h2⟩ := h.width 6 (Nat.le_refl _)
  refine ⟨?_, ?_⟩
  · unfold sp_doubt mp_doubt
    rw [h1]
  · unfold sp_doubt
    exact I_mono (I_div h2 (by decide)) (Int.le_refl _) (by decide)
theorem rP.height (h : rP σ ρ q) : sp_height σ q = mp_height ρ q ∧ I_ (sp_height σ q) 0 198 := by
  obtain ⟨h1, h2, h3, h4, -⟩ := h.2.2.2.2.2 5 (by decide)
  refine ⟨?_, ?_⟩
  · unfold sp_height mp_height
    rw [h1, h2]
  · unfold sp_height
    exact I_mono (I_add h3 h4 (by omega) (by omega)) (by omega) (by omega)
theorem rF.done (h : rF P R (σ 9 f) (ρ 14 f)) : sp_isDone σ f = mp_isDone ρ f := by
  obtain ⟨-, -, ⟨j, hj, e1, e2, -⟩, -, -, -, ⟨e7, -⟩, -⟩ := h
  unfold sp_isDone mp_isDone
  rw [e1, e2, e7]
theorem rF.ready (h : rF P R (σ 9 f) (ρ 14 f)) : sp_isReady σ f = mp_hand ρ f := by
  obtain ⟨-, -, ⟨j, hj, e1, e2, -⟩, -, -, -, ⟨e7, -⟩, -⟩ := h
  unfold sp_isReady mp_hand mp_isDone
  rw [e1, e2, e7]
  by_cases a : nI j = 6
  · rw [if_pos a, if_pos a]
    by_cases b : σ 9 f 7 = 5
    · rw [if_pos b, b]
      rfl
    · rw [if_neg b]
      by_cases c : σ 9 f 7 = 7
      · rw [if_pos c, if_pos rfl]
      · rw [if_neg c, if_neg (by decide)]
  · rw [if_neg a, if_neg a, if_pos rfl]
theorem rF.shown (h : rF P R (σ 9 f) (ρ 14 f)) (hR : R ≤ 5) : sp_isShown σ f = mp_isShown ρ f := by
  obtain ⟨-, -, -, -, -, -, ⟨e7, hp⟩, -⟩ := h
  unfold sp_isShown mp_isShown
  rw [e7]
  rw [if_neg (show ¬ σ 9 f 7 < 0 from ?_)]
  rcases hp with ⟨r, hr, e, -⟩ | e | ⟨e, -⟩ | ⟨e, -⟩
  · rw [e]; exact nI_pos (by omega)
  · rw [e]; decide
  · rw [e]; decide
  · rw [e]; decide
theorem rF.heads (h : rF P R (σ 9 f) (ρ 14 f)) (hP : P ≤ 10) : ((σ 9 f 0).toNatClampNeg < P ∧ (ρ 14 f 0).toNatClampNeg = (σ 9 f 0).toNatClampNeg) ∧ (σ 9 f 1).toNatClampNeg < P ∧ (ρ 14 f 1).toNatClampNeg = (σ 9 f 1).toNatClampNeg := by
  obtain ⟨⟨h0, k0, a0, b0⟩, ⟨h1, k1, a1, b1⟩, -⟩ := h
  rw [a0, b0, a1, b1, nI_clamp (by omega), nI_clamp (by omega)]
  exact ⟨⟨k0, rfl⟩, k1, rfl⟩
theorem sp_gap_mp (x : Int32) : sp_gap x = mp_abs x := by
  unfold sp_gap mp_abs
  rw [Int32.zero_sub]
theorem sp_gap_I {x : Int32} (h : I_ x (-198) 198) : I_ (sp_gap x) 0 198 := by
  have h1 := h.1; have h2 := h.2
  unfold sp_gap
  split
  · rename_i a
    rw [tI_le, tI_0] at a
    exact ⟨a, h2⟩
  · rename_i a
    rw [tI_le, tI_0] at a
    rw [← Int32.zero_sub]
    unfold I_
    rw [tI_sub (by rw [tI_0]; omega) (by rw [tI_0]; omega), tI_0]
    omega
theorem rF.less (h : rF P R (σ 9 f) (ρ 14 f)) (hP : P ≤ 10) (hp : ∀ q, q < P → rP σ ρ q) : I_ (mp_less ρ f) 0 400 ∧ (if (σ 9 f 0).toNatClampNeg = (σ 9 f 1).toNatClampNeg then 100 - σ 9 f 5 - σ 9 f 6 / 2 else 100 - σ 9 f 5 - σ 9 f 6 / 2 - sp_gap (sp_height σ (σ 9 f 0).toNatClampNeg - sp_height σ (σ 9 f 1).toNatClampNeg) / 4) = 100 - mp_less ρ f := by
  obtain ⟨⟨h0, k0, a0, b0⟩, ⟨h1, k1, a1, b1⟩, -, -, ⟨e5, i5⟩, ⟨e6, i6⟩, -⟩ := h
  have c0 : (nI h0).toNatClampNeg = h0 := nI_clamp (by omega)
  have c1 : (nI h1).toNatClampNeg = h1 := nI_clamp (by omega)
  obtain ⟨g0, j0⟩ := (hp h0 k0).height
  obtain ⟨g1, j1⟩ := (hp h1 k1).height
  have iw : I_ (σ 9 f 6 / 2) 0 50 := I_mono (I_div i6 (by decide)) (Int.le_refl _) (by decide)
  have ig : I_ (sp_gap (sp_height σ h0 - sp_height σ h1) / 4) 0 49 := I_mono (I_div (sp_gap_I (I_mono (I_sub j0 j1 (by omega) (by omega)) (by omega) (by omega))) (by decide)) (Int.le_refl _) (by decide)
  have ib : I_ (σ 9 f 5 + σ 9 f 6 / 2) 0 149 := I_mono (I_add i5 iw (by omega) (by omega)) (by omega) (by omega)
  unfold mp_less
  rw [a0, a1, b0, b1, c0, c1, e5, e6, ← g0, ← g1, ← sp_gap_mp]
  by_cases e : h0 = h1
  · rw [if_pos (by rw [e]), if_pos e, Int32.add_zero]
    exact ⟨I_mono ib (by omega) (by omega), Int32.sub_sub _ _ _⟩
  · rw [if_neg (fun z => e (nI_inj (by omega) (by omega) z)), if_neg e]
    refine ⟨I_mono (I_add ib ig (by omega) (by omega)) (by omega) (by omega), ?_⟩
    rw [Int32.sub_sub, Int32.sub_sub]
    rw [Int32.add_assoc]
theorem rF.like (h : rF P R (σ 9 f) (ρ 14 f)) (hP : P ≤ 10) (hp : ∀ q, q < P → rP σ ρ q) : sp_likeness σ f = mp_like ρ f ∧ I_ (sp_likeness σ f) 0 100 := by
  obtain ⟨i, e⟩ := h.less hP hp
  have hd := h.done
  have e1 : sp_likeness σ f = if sp_isDone σ f = 0 then 0 else (if 0 ≤ 100 - mp_less ρ f then 100 - mp_less ρ f else 0) := by
    unfold sp_likeness
    dsimp only
    rw [e]
  rw [e1]
  unfold mp_like
  rw [hd]
  split
  · exact ⟨rfl, by decide, by decide⟩
  · have h1 := i.1
    have h2 := i.2
    have et : (100 - mp_less ρ f).toInt = 100 - (mp_less ρ f).toInt := tI_sub (by rw [tI_100]; omega) (by rw [tI_100]; omega)
    unfold mp_max
    by_cases a : 0 < 100 - mp_less ρ f
    · rw [if_pos (Int32.le_of_lt a), if_pos a]
      rw [tI_lt, tI_0] at a
      exact ⟨rfl, by omega, by omega⟩
    · rw [if_neg a]
      rw [tI_lt, tI_0] at a
      split
      · rename_i b
        rw [tI_le, tI_0] at b
        have : (100 - mp_less ρ f).toInt = 0 := by omega
        exact ⟨tI_eq (by rw [this, tI_0]), by omega, by omega⟩
      · exact ⟨rfl, by decide, by decide⟩
theorem rF.draw (h : rF P R (σ 9 f) (ρ 14 f)) (hP : P ≤ 10) (hR : R ≤ 5) (hp : ∀ q, q < P → rP σ ρ q) : sp_draw σ f = mp_draw ρ f ∧ I_ (sp_draw σ f) 0 999 := by
  obtain ⟨l1, l2⟩ := h.like hP hp
  obtain ⟨⟨q1, q2⟩, -⟩ := h.heads hP
  obtain ⟨f1, f2⟩ := (hp _ q1).1 0 (by decide)
  unfold sp_draw mp_draw
  rw [h.shown hR, q2, f1, l1]
  rw [l1] at l2
  split
  · exact ⟨rfl, by decide, by decide⟩
  · exact ⟨rfl, I_mono (I_div (I_mul f2 l2 (by decide)) (by decide)) (Int.le_refl _) (by decide)⟩
theorem sp_place {x : Int32} (h : (∃ r, r < R ∧ x = nI r) ∨ x = 5 ∨ x = 6 ∨ x = 7) (hR : R ≤ 5) : I_ x 0 7 := by
  rcases h with ⟨r, hr, e⟩ | e | e | e
  · rw [e]; exact I_nI (by omega) (by omega)
  · rw [e]; exact ⟨by decide, by decide⟩
  · rw [e]; exact ⟨by decide, by decide⟩
  · rw [e]; exact ⟨by decide, by decide⟩
/-- what holds of all live figures, step by step -/
theorem mrL.draws (h : mrL P F R N σ ρ) (x y : Int32) : ∀ n, n ≤ F → sp_draws σ x y n = mp_draws ρ x y n ∧ I_ (sp_draws σ x y n) 0 (999 * n) := by
  intro n
  induction n with
  | zero => exact fun _ => ⟨rfl, Int.le_refl _, by show (0 : Int) ≤ _ * 0; omega⟩
  | succ n ih =>
    intro hn
    obtain ⟨i1, i2⟩ := ih (by omega)
    have hf := h.2.2.2.1 n (by omega)
    obtain ⟨d1, d2⟩ := hf.draw h.1.1 h.1.2.2 h.2.2.1
    have e7 := hf.2.2.2.2.2.2.1.1
    have hF := h.1.2.1
    rw [sp_draws, mp_draws, e7]
    unfold mp_in
    have k2 : I_ (sp_draws σ x y n) 0 (999 * (n + 1 : Nat)) := I_mono i2 (by omega) (by omega)
    by_cases a : σ 9 n 7 < x
    · rw [if_pos a, if_pos a, if_pos rfl, Int32.add_zero]
      exact ⟨i1, k2⟩
    · rw [if_neg a, if_neg a]
      by_cases b : y < σ 9 n 7
      · rw [if_pos b, if_pos b, if_pos rfl, Int32.add_zero]
        exact ⟨i1, k2⟩
      · rw [if_neg b, if_neg b, if_neg (by decide), i1, d1]
        rw [d1] at d2
        rw [i1] at i2
        exact ⟨rfl, I_mono (I_add i2 d2 (by omega) (by omega)) (by omega) (by omega)⟩
theorem mrL.hands (h : mrL P F R N σ ρ) : ∀ n, n ≤ F → sp_hands σ n = mp_hands ρ n ∧ I_ (sp_hands σ n) 0 (9 * n) := by
  intro n
  induction n with
  | zero => exact fun _ => ⟨rfl, Int.le_refl _, by show (0 : Int) ≤ _ * 0; omega⟩
  | succ n ih =>
    intro hn
    obtain ⟨i1, i2⟩ := ih (by omega)
    obtain ⟨e4, i4⟩ := (h.2.2.2.1 n (by omega)).2.2.2.1
    have hF := h.1.2.1
    rw [sp_hands, mp_hands, e4, i1]
    rw [i1] at i2
    exact ⟨rfl, I_mono (I_add i2 i4 (by omega) (by omega)) (by omega) (by omega)⟩
theorem mrL.figIn (h : mrL P F R N σ ρ) (x y : Int32) : ∀ n, n ≤ F → sp_figIn σ x y n = mp_cnt ρ x y n ∧ I_ (sp_figIn σ x y n) 0 n := by
  intro n
  induction n with
  | zero => exact fun _ => ⟨rfl, Int.le_refl _, Int.le_refl _⟩
  | succ n ih =>
    intro hn
    obtain ⟨i1, i2⟩ := ih (by omega)
    have e7 := (h.2.2.2.1 n (by omega)).2.2.2.2.2.2.1.1
    have hF := h.1.2.1
    rw [sp_figIn, mp_cnt, e7]
    unfold mp_in
    have k2 : I_ (sp_figIn σ x y n) 0 ((n + 1 : Nat)) := I_mono i2 (by omega) (by omega)
    by_cases a : σ 9 n 7 < x
    · rw [if_pos a, if_pos a, if_pos rfl, Int32.add_zero]
      exact ⟨i1, k2⟩
    · rw [if_neg a, if_neg a]
      by_cases b : y < σ 9 n 7
      · rw [if_pos b, if_pos b, if_pos rfl, Int32.add_zero]
        exact ⟨i1, k2⟩
      · rw [if_neg b, if_neg b, if_neg (by decide), i1]
        rw [i1] at i2
        exact ⟨rfl, I_mono (I_add i2 (I_c tI_1) (by omega) (by omega)) (by omega) (by omega)⟩
theorem mrL.many (h : mrL P F R N σ ρ) (x : Int32) : ∀ n, n ≤ F → sp_figIn σ x x n = mp_many ρ x n := by
  intro n
  induction n with
  | zero => exact fun _ => rfl
  | succ n ih =>
    intro hn
    have i1 := ih (by omega)
    have e7 := (h.2.2.2.1 n (by omega)).2.2.2.2.2.2.1.1
    rw [sp_figIn, mp_many, e7, i1]
    by_cases a : σ 9 n 7 < x
    · rw [if_pos a, if_neg (fun z => by rw [z] at a; exact absurd a (Int32.lt_irrefl)), Int32.add_zero]
    · rw [if_neg a]
      by_cases b : x < σ 9 n 7
      · rw [if_pos b, if_neg (fun z => by rw [z] at b; exact absurd b (Int32.lt_irrefl)), Int32.add_zero]
      · rw [if_neg b, if_pos (Int32.le_antisymm (Int32.not_lt.mp b) (Int32.not_lt.mp a))]
theorem mrL.done (h : mrL P F R N σ ρ) : ∀ n, n ≤ F → sp_done σ n = mp_dones ρ n := by
  intro n
  induction n with
  | zero => exact fun _ => rfl
  | succ n ih =>
    intro hn
    rw [sp_done, mp_dones, ih (by omega), (h.2.2.2.1 n (by omega)).done]
    split
    · rw [Int32.add_zero]
    · rfl
theorem mrL.due (h : mrL P F R N σ ρ) : ∀ n, n ≤ P → sp_due σ n = mp_dues ρ n := by
  intro n
  induction n with
  | zero => exact fun _ => rfl
  | succ n ih =>
    intro hn
    rw [sp_due, mp_dues, ih (by omega), (h.2.2.1 n (by omega)).2.2.2.1]
theorem mrL.liked (h : mrL P F R N σ ρ) : ∀ n, n ≤ F → sp_liked σ n = mp_liked ρ n := by
  intro n
  induction n with
  | zero => exact fun _ => rfl
  | succ n ih =>
    intro hn
    have hf := h.2.2.2.1 n (by omega)
    rw [sp_liked, mp_liked, ih (by omega), hf.shown h.1.2.2, (hf.like h.1.1 h.2.2.1).1]
    split
    · rw [Int32.add_zero]
    · rfl
theorem mrL.shownOf (h : mrL P F R N σ ρ) (q : Nat) (hq : q < 10) : ∀ k n, n + k ≤ F → sp_shownFrom σ q k n = mp_shownOf ρ (nI q) k n := by
  intro k
  induction k with
  | zero => exact fun n _ => rfl
  | succ k ih =>
    intro n hn
    have hf := h.2.2.2.1 n (by omega)
    obtain ⟨⟨h0, k0, a0, b0⟩, -⟩ := id hf
    have hP := h.1.1
    rw [sp_shownFrom, mp_shownOf, ih (n + 1) (by omega), hf.shown h.1.2.2, a0, b0, nI_clamp (by omega)]
    by_cases e : h0 = q
    · rw [if_pos e]
      split
      · rfl
      · rw [if_pos (by rw [e])]
    · rw [if_neg e, if_neg (fun z => e (nI_inj (by omega) (by omega) z)), ite_self]
theorem mrL.has (h : mrL P F R N σ ρ) (q : Nat) (hq : q < 10) : ∀ k n, n + k ≤ F → sp_hasFrom σ q k n = mp_has ρ (nI q) k n := by
  intro k
  induction k with
  | zero => exact fun n _ => rfl
  | succ k ih =>
    intro n hn
    have hf := h.2.2.2.1 n (by omega)
    obtain ⟨⟨h0, k0, a0, b0⟩, -, -, -, -, -, ⟨e7, -⟩, -⟩ := id hf
    have hP := h.1.1
    rw [sp_hasFrom, mp_has, ih (n + 1) (by omega), a0, b0, e7, nI_clamp (by omega)]
    by_cases e : h0 = q
    · rw [if_pos e]
      split
      · rfl
      · rw [if_pos (by rw [e])]
    · rw [if_neg e, if_neg (fun z => e (nI_inj (by omega) (by omega) z)), ite_self]
end RELR
